section
-- ===== PART A: goes FIRST, ahead of the names: the tables' words, and 'selects' of the private methods out of them =====
/-- a private method of a class that the tables say can be made, by its rows of tables_1 -/
def lw_okq (q : MethodName × Nat) : Prop := (q.1.cls ≠ "java/lang/invoke/MethodHandle" ∧ q.1.cls ≠ "java/lang/invoke/VarHandle") ∧ Cond.instantiable q.1.cls q.2 ∈ tables_1 ∧ Cond.privateMethod q.1 ∈ tables_1 ∧ Cond.instanceMethod q.1 ∈ tables_1
theorem lw_p0 : lw_okq (⟨"PaidInDays$Telling", "isFull", "()Z"⟩, 2) := ⟨⟨by decide +kernel, by decide +kernel⟩, List.mem_of_getElem? (i := 121) (by decide +kernel), List.mem_of_getElem? (i := 168) (by decide +kernel), List.mem_of_getElem? (i := 169) (by decide +kernel)⟩
theorem lw_p1 : lw_okq (⟨"PaidInDays", "refuse", "(I)I"⟩, 8) := ⟨⟨by decide +kernel, by decide +kernel⟩, List.mem_of_getElem? (i := 20) (by decide +kernel), List.mem_of_getElem? (i := 172) (by decide +kernel), List.mem_of_getElem? (i := 173) (by decide +kernel)⟩
theorem lw_p2 : lw_okq (⟨"PaidInDays$Telling", "add", "(C)V"⟩, 2) := ⟨⟨by decide +kernel, by decide +kernel⟩, List.mem_of_getElem? (i := 121) (by decide +kernel), List.mem_of_getElem? (i := 176) (by decide +kernel), List.mem_of_getElem? (i := 177) (by decide +kernel)⟩
theorem lw_p3 : lw_okq (⟨"PaidInDays$Crew", "become", "(LPaidInDays$Crew;)V"⟩, 9) := ⟨⟨by decide +kernel, by decide +kernel⟩, List.mem_of_getElem? (i := 28) (by decide +kernel), List.mem_of_getElem? (i := 185) (by decide +kernel), List.mem_of_getElem? (i := 186) (by decide +kernel)⟩
theorem lw_p4 : lw_okq (⟨"PaidInDays$Telling", "firstWrongLetter", "()I"⟩, 2) := ⟨⟨by decide +kernel, by decide +kernel⟩, List.mem_of_getElem? (i := 121) (by decide +kernel), List.mem_of_getElem? (i := 192) (by decide +kernel), List.mem_of_getElem? (i := 193) (by decide +kernel)⟩
theorem lw_p5 : lw_okq (⟨"PaidInDays$Telling", "shapeAt", "(I)Ljava/lang/String;"⟩, 2) := ⟨⟨by decide +kernel, by decide +kernel⟩, List.mem_of_getElem? (i := 121) (by decide +kernel), List.mem_of_getElem? (i := 196) (by decide +kernel), List.mem_of_getElem? (i := 197) (by decide +kernel)⟩
theorem lw_p6 : lw_okq (⟨"PaidInDays$Telling", "isObeyed", "(ILPaidInDays$Crew;)Z"⟩, 2) := ⟨⟨by decide +kernel, by decide +kernel⟩, List.mem_of_getElem? (i := 121) (by decide +kernel), List.mem_of_getElem? (i := 319) (by decide +kernel), List.mem_of_getElem? (i := 320) (by decide +kernel)⟩
theorem lw_p7 : lw_okq (⟨"PaidInDays$Telling", "hires", "(ILPaidInDays$Crew;)Z"⟩, 2) := ⟨⟨by decide +kernel, by decide +kernel⟩, List.mem_of_getElem? (i := 121) (by decide +kernel), List.mem_of_getElem? (i := 323) (by decide +kernel), List.mem_of_getElem? (i := 324) (by decide +kernel)⟩
theorem lw_p8 : lw_okq (⟨"PaidInDays$Telling", "number", "(II)I"⟩, 2) := ⟨⟨by decide +kernel, by decide +kernel⟩, List.mem_of_getElem? (i := 121) (by decide +kernel), List.mem_of_getElem? (i := 327) (by decide +kernel), List.mem_of_getElem? (i := 328) (by decide +kernel)⟩
theorem lw_p9 : lw_okq (⟨"PaidInDays$Crew", "hasRoom", "()Z"⟩, 9) := ⟨⟨by decide +kernel, by decide +kernel⟩, List.mem_of_getElem? (i := 28) (by decide +kernel), List.mem_of_getElem? (i := 331) (by decide +kernel), List.mem_of_getElem? (i := 332) (by decide +kernel)⟩
theorem lw_p10 : lw_okq (⟨"PaidInDays$Crew", "hire", "(III)V"⟩, 9) := ⟨⟨by decide +kernel, by decide +kernel⟩, List.mem_of_getElem? (i := 28) (by decide +kernel), List.mem_of_getElem? (i := 335) (by decide +kernel), List.mem_of_getElem? (i := 336) (by decide +kernel)⟩
theorem lw_p11 : lw_okq (⟨"PaidInDays$Telling", "changesOff", "(ILPaidInDays$Crew;)Z"⟩, 2) := ⟨⟨by decide +kernel, by decide +kernel⟩, List.mem_of_getElem? (i := 121) (by decide +kernel), List.mem_of_getElem? (i := 340) (by decide +kernel), List.mem_of_getElem? (i := 341) (by decide +kernel)⟩
theorem lw_p12 : lw_okq (⟨"PaidInDays$Crew", "has", "(I)Z"⟩, 9) := ⟨⟨by decide +kernel, by decide +kernel⟩, List.mem_of_getElem? (i := 28) (by decide +kernel), List.mem_of_getElem? (i := 344) (by decide +kernel), List.mem_of_getElem? (i := 345) (by decide +kernel)⟩
theorem lw_p13 : lw_okq (⟨"PaidInDays$Crew", "change", "(II)V"⟩, 9) := ⟨⟨by decide +kernel, by decide +kernel⟩, List.mem_of_getElem? (i := 28) (by decide +kernel), List.mem_of_getElem? (i := 351) (by decide +kernel), List.mem_of_getElem? (i := 352) (by decide +kernel)⟩
theorem lw_p14 : lw_okq (⟨"PaidInDays$Telling", "setsTired", "(ILPaidInDays$Crew;)Z"⟩, 2) := ⟨⟨by decide +kernel, by decide +kernel⟩, List.mem_of_getElem? (i := 121) (by decide +kernel), List.mem_of_getElem? (i := 355) (by decide +kernel), List.mem_of_getElem? (i := 356) (by decide +kernel)⟩
theorem lw_p15 : lw_okq (⟨"PaidInDays$Telling", "handsOver", "(ILPaidInDays$Crew;)Z"⟩, 2) := ⟨⟨by decide +kernel, by decide +kernel⟩, List.mem_of_getElem? (i := 121) (by decide +kernel), List.mem_of_getElem? (i := 359) (by decide +kernel), List.mem_of_getElem? (i := 360) (by decide +kernel)⟩
def lw_privs_1 : List (MethodName × Nat) := [(⟨"PaidInDays$Telling", "isFull", "()Z"⟩, 2), (⟨"PaidInDays", "refuse", "(I)I"⟩, 8), (⟨"PaidInDays$Telling", "add", "(C)V"⟩, 2), (⟨"PaidInDays$Crew", "become", "(LPaidInDays$Crew;)V"⟩, 9), (⟨"PaidInDays$Telling", "firstWrongLetter", "()I"⟩, 2), (⟨"PaidInDays$Telling", "shapeAt", "(I)Ljava/lang/String;"⟩, 2), (⟨"PaidInDays$Telling", "isObeyed", "(ILPaidInDays$Crew;)Z"⟩, 2), (⟨"PaidInDays$Telling", "hires", "(ILPaidInDays$Crew;)Z"⟩, 2), (⟨"PaidInDays$Telling", "number", "(II)I"⟩, 2), (⟨"PaidInDays$Crew", "hasRoom", "()Z"⟩, 9), (⟨"PaidInDays$Crew", "hire", "(III)V"⟩, 9), (⟨"PaidInDays$Telling", "changesOff", "(ILPaidInDays$Crew;)Z"⟩, 2), (⟨"PaidInDays$Crew", "has", "(I)Z"⟩, 9), (⟨"PaidInDays$Crew", "change", "(II)V"⟩, 9), (⟨"PaidInDays$Telling", "setsTired", "(ILPaidInDays$Crew;)Z"⟩, 2), (⟨"PaidInDays$Telling", "handsOver", "(ILPaidInDays$Crew;)Z"⟩, 2)]
theorem lw_r1 : ∀ q ∈ lw_privs_1, lw_okq q := List.forall_mem_cons.mpr ⟨lw_p0, List.forall_mem_cons.mpr ⟨lw_p1, List.forall_mem_cons.mpr ⟨lw_p2, List.forall_mem_cons.mpr ⟨lw_p3, List.forall_mem_cons.mpr ⟨lw_p4, List.forall_mem_cons.mpr ⟨lw_p5, List.forall_mem_cons.mpr ⟨lw_p6, List.forall_mem_cons.mpr ⟨lw_p7, List.forall_mem_cons.mpr ⟨lw_p8, List.forall_mem_cons.mpr ⟨lw_p9, List.forall_mem_cons.mpr ⟨lw_p10, List.forall_mem_cons.mpr ⟨lw_p11, List.forall_mem_cons.mpr ⟨lw_p12, List.forall_mem_cons.mpr ⟨lw_p13, List.forall_mem_cons.mpr ⟨lw_p14, List.forall_mem_cons.mpr ⟨lw_p15, fun _ h => absurd h List.not_mem_nil⟩⟩⟩⟩⟩⟩⟩⟩⟩⟩⟩⟩⟩⟩⟩⟩
theorem lw_p16 : lw_okq (⟨"PaidInDays$Crew", "canHand", "(III)Z"⟩, 9) := ⟨⟨by decide +kernel, by decide +kernel⟩, List.mem_of_getElem? (i := 28) (by decide +kernel), List.mem_of_getElem? (i := 363) (by decide +kernel), List.mem_of_getElem? (i := 364) (by decide +kernel)⟩
theorem lw_p17 : lw_okq (⟨"PaidInDays$Crew", "isOff", "(II)Z"⟩, 9) := ⟨⟨by decide +kernel, by decide +kernel⟩, List.mem_of_getElem? (i := 28) (by decide +kernel), List.mem_of_getElem? (i := 367) (by decide +kernel), List.mem_of_getElem? (i := 368) (by decide +kernel)⟩
theorem lw_p18 : lw_okq (⟨"PaidInDays$Crew", "hand", "(III)V"⟩, 9) := ⟨⟨by decide +kernel, by decide +kernel⟩, List.mem_of_getElem? (i := 28) (by decide +kernel), List.mem_of_getElem? (i := 374) (by decide +kernel), List.mem_of_getElem? (i := 375) (by decide +kernel)⟩
theorem lw_p19 : lw_okq (⟨"PaidInDays$Telling", "letsPass", "(ILPaidInDays$Crew;)Z"⟩, 2) := ⟨⟨by decide +kernel, by decide +kernel⟩, List.mem_of_getElem? (i := 121) (by decide +kernel), List.mem_of_getElem? (i := 379) (by decide +kernel), List.mem_of_getElem? (i := 380) (by decide +kernel)⟩
theorem lw_p20 : lw_okq (⟨"PaidInDays$Crew", "passDays", "(II)I"⟩, 9) := ⟨⟨by decide +kernel, by decide +kernel⟩, List.mem_of_getElem? (i := 28) (by decide +kernel), List.mem_of_getElem? (i := 383) (by decide +kernel), List.mem_of_getElem? (i := 384) (by decide +kernel)⟩
theorem lw_p21 : lw_okq (⟨"PaidInDays$Crew", "isPaidAtWork", "(IZ)Z"⟩, 9) := ⟨⟨by decide +kernel, by decide +kernel⟩, List.mem_of_getElem? (i := 28) (by decide +kernel), List.mem_of_getElem? (i := 388) (by decide +kernel), List.mem_of_getElem? (i := 389) (by decide +kernel)⟩
theorem lw_p22 : lw_okq (⟨"PaidInDays$Crew", "ruleOf", "(I)LPaidInDays$WorkerKind;"⟩, 9) := ⟨⟨by decide +kernel, by decide +kernel⟩, List.mem_of_getElem? (i := 28) (by decide +kernel), List.mem_of_getElem? (i := 393) (by decide +kernel), List.mem_of_getElem? (i := 394) (by decide +kernel)⟩
theorem lw_p23 : lw_okq (⟨"PaidInDays$Crew", "offered", "(II)I"⟩, 9) := ⟨⟨by decide +kernel, by decide +kernel⟩, List.mem_of_getElem? (i := 28) (by decide +kernel), List.mem_of_getElem? (i := 421) (by decide +kernel), List.mem_of_getElem? (i := 422) (by decide +kernel)⟩
theorem lw_p24 : lw_okq (⟨"PaidInDays$Telling", "forget", "()V"⟩, 2) := ⟨⟨by decide +kernel, by decide +kernel⟩, List.mem_of_getElem? (i := 121) (by decide +kernel), List.mem_of_getElem? (i := 466) (by decide +kernel), List.mem_of_getElem? (i := 467) (by decide +kernel)⟩
theorem lw_p25 : lw_okq (⟨"PaidInDays", "areTwo", "(II)Z"⟩, 8) := ⟨⟨by decide +kernel, by decide +kernel⟩, List.mem_of_getElem? (i := 20) (by decide +kernel), List.mem_of_getElem? (i := 498) (by decide +kernel), List.mem_of_getElem? (i := 499) (by decide +kernel)⟩
theorem lw_p26 : lw_okq (⟨"PaidInDays$Crew", "weekday", "()I"⟩, 9) := ⟨⟨by decide +kernel, by decide +kernel⟩, List.mem_of_getElem? (i := 28) (by decide +kernel), List.mem_of_getElem? (i := 525) (by decide +kernel), List.mem_of_getElem? (i := 526) (by decide +kernel)⟩
theorem lw_p27 : lw_okq (⟨"PaidInDays$Crew", "whoIsIn", "(I)I"⟩, 9) := ⟨⟨by decide +kernel, by decide +kernel⟩, List.mem_of_getElem? (i := 28) (by decide +kernel), List.mem_of_getElem? (i := 529) (by decide +kernel), List.mem_of_getElem? (i := 530) (by decide +kernel)⟩
theorem lw_p28 : lw_okq (⟨"PaidInDays", "daysTillFall", "(II)I"⟩, 8) := ⟨⟨by decide +kernel, by decide +kernel⟩, List.mem_of_getElem? (i := 20) (by decide +kernel), List.mem_of_getElem? (i := 537) (by decide +kernel), List.mem_of_getElem? (i := 538) (by decide +kernel)⟩
theorem lw_p29 : lw_okq (⟨"PaidInDays$Crew", "whoFell", "()I"⟩, 9) := ⟨⟨by decide +kernel, by decide +kernel⟩, List.mem_of_getElem? (i := 28) (by decide +kernel), List.mem_of_getElem? (i := 541) (by decide +kernel), List.mem_of_getElem? (i := 542) (by decide +kernel)⟩
theorem lw_p30 : lw_okq (⟨"PaidInDays$Crew", "strikeDay", "()I"⟩, 9) := ⟨⟨by decide +kernel, by decide +kernel⟩, List.mem_of_getElem? (i := 28) (by decide +kernel), List.mem_of_getElem? (i := 554) (by decide +kernel), List.mem_of_getElem? (i := 555) (by decide +kernel)⟩
theorem lw_p31 : lw_okq (⟨"PaidInDays$Crew", "offOn", "(I)I"⟩, 9) := ⟨⟨by decide +kernel, by decide +kernel⟩, List.mem_of_getElem? (i := 28) (by decide +kernel), List.mem_of_getElem? (i := 558) (by decide +kernel), List.mem_of_getElem? (i := 559) (by decide +kernel)⟩
def lw_privs_2 : List (MethodName × Nat) := [(⟨"PaidInDays$Crew", "canHand", "(III)Z"⟩, 9), (⟨"PaidInDays$Crew", "isOff", "(II)Z"⟩, 9), (⟨"PaidInDays$Crew", "hand", "(III)V"⟩, 9), (⟨"PaidInDays$Telling", "letsPass", "(ILPaidInDays$Crew;)Z"⟩, 2), (⟨"PaidInDays$Crew", "passDays", "(II)I"⟩, 9), (⟨"PaidInDays$Crew", "isPaidAtWork", "(IZ)Z"⟩, 9), (⟨"PaidInDays$Crew", "ruleOf", "(I)LPaidInDays$WorkerKind;"⟩, 9), (⟨"PaidInDays$Crew", "offered", "(II)I"⟩, 9), (⟨"PaidInDays$Telling", "forget", "()V"⟩, 2), (⟨"PaidInDays", "areTwo", "(II)Z"⟩, 8), (⟨"PaidInDays$Crew", "weekday", "()I"⟩, 9), (⟨"PaidInDays$Crew", "whoIsIn", "(I)I"⟩, 9), (⟨"PaidInDays", "daysTillFall", "(II)I"⟩, 8), (⟨"PaidInDays$Crew", "whoFell", "()I"⟩, 9), (⟨"PaidInDays$Crew", "strikeDay", "()I"⟩, 9), (⟨"PaidInDays$Crew", "offOn", "(I)I"⟩, 9)]
theorem lw_r2 : ∀ q ∈ lw_privs_2, lw_okq q := List.forall_mem_cons.mpr ⟨lw_p16, List.forall_mem_cons.mpr ⟨lw_p17, List.forall_mem_cons.mpr ⟨lw_p18, List.forall_mem_cons.mpr ⟨lw_p19, List.forall_mem_cons.mpr ⟨lw_p20, List.forall_mem_cons.mpr ⟨lw_p21, List.forall_mem_cons.mpr ⟨lw_p22, List.forall_mem_cons.mpr ⟨lw_p23, List.forall_mem_cons.mpr ⟨lw_p24, List.forall_mem_cons.mpr ⟨lw_p25, List.forall_mem_cons.mpr ⟨lw_p26, List.forall_mem_cons.mpr ⟨lw_p27, List.forall_mem_cons.mpr ⟨lw_p28, List.forall_mem_cons.mpr ⟨lw_p29, List.forall_mem_cons.mpr ⟨lw_p30, List.forall_mem_cons.mpr ⟨lw_p31, fun _ h => absurd h List.not_mem_nil⟩⟩⟩⟩⟩⟩⟩⟩⟩⟩⟩⟩⟩⟩⟩⟩
theorem lw_p32 : lw_okq (⟨"PaidInDays$Crew", "coveredByNobody", "()I"⟩, 9) := ⟨⟨by decide +kernel, by decide +kernel⟩, List.mem_of_getElem? (i := 28) (by decide +kernel), List.mem_of_getElem? (i := 565) (by decide +kernel), List.mem_of_getElem? (i := 566) (by decide +kernel)⟩
theorem lw_p33 : lw_okq (⟨"PaidInDays$Crew", "richest", "()I"⟩, 9) := ⟨⟨by decide +kernel, by decide +kernel⟩, List.mem_of_getElem? (i := 28) (by decide +kernel), List.mem_of_getElem? (i := 569) (by decide +kernel), List.mem_of_getElem? (i := 570) (by decide +kernel)⟩
theorem lw_p34 : lw_okq (⟨"PaidInDays$Crew", "meetings", "(II)I"⟩, 9) := ⟨⟨by decide +kernel, by decide +kernel⟩, List.mem_of_getElem? (i := 28) (by decide +kernel), List.mem_of_getElem? (i := 577) (by decide +kernel), List.mem_of_getElem? (i := 578) (by decide +kernel)⟩
theorem lw_p35 : lw_okq (⟨"PaidInDays", "allTiredBehind", "(I)I"⟩, 8) := ⟨⟨by decide +kernel, by decide +kernel⟩, List.mem_of_getElem? (i := 20) (by decide +kernel), List.mem_of_getElem? (i := 596) (by decide +kernel), List.mem_of_getElem? (i := 597) (by decide +kernel)⟩
theorem lw_p36 : lw_okq (⟨"PaidInDays$Crew", "allTired", "()I"⟩, 9) := ⟨⟨by decide +kernel, by decide +kernel⟩, List.mem_of_getElem? (i := 28) (by decide +kernel), List.mem_of_getElem? (i := 600) (by decide +kernel), List.mem_of_getElem? (i := 601) (by decide +kernel)⟩
theorem lw_p37 : lw_okq (⟨"PaidInDays", "bothTiredBehind", "(III)I"⟩, 8) := ⟨⟨by decide +kernel, by decide +kernel⟩, List.mem_of_getElem? (i := 20) (by decide +kernel), List.mem_of_getElem? (i := 608) (by decide +kernel), List.mem_of_getElem? (i := 609) (by decide +kernel)⟩
theorem lw_p38 : lw_okq (⟨"PaidInDays", "nobodyFalls", "(II)Z"⟩, 8) := ⟨⟨by decide +kernel, by decide +kernel⟩, List.mem_of_getElem? (i := 20) (by decide +kernel), List.mem_of_getElem? (i := 622) (by decide +kernel), List.mem_of_getElem? (i := 623) (by decide +kernel)⟩
theorem lw_p39 : lw_okq (⟨"PaidInDays$Crew", "addOff", "(II)V"⟩, 9) := ⟨⟨by decide +kernel, by decide +kernel⟩, List.mem_of_getElem? (i := 28) (by decide +kernel), List.mem_of_getElem? (i := 626) (by decide +kernel), List.mem_of_getElem? (i := 627) (by decide +kernel)⟩
theorem lw_p40 : lw_okq (⟨"PaidInDays", "wagesBehind", "(II)I"⟩, 8) := ⟨⟨by decide +kernel, by decide +kernel⟩, List.mem_of_getElem? (i := 20) (by decide +kernel), List.mem_of_getElem? (i := 634) (by decide +kernel), List.mem_of_getElem? (i := 635) (by decide +kernel)⟩
theorem lw_p41 : lw_okq (⟨"PaidInDays", "keepsTo", "(III)Z"⟩, 8) := ⟨⟨by decide +kernel, by decide +kernel⟩, List.mem_of_getElem? (i := 20) (by decide +kernel), List.mem_of_getElem? (i := 646) (by decide +kernel), List.mem_of_getElem? (i := 647) (by decide +kernel)⟩
theorem lw_p42 : lw_okq (⟨"PaidInDays", "feltTired", "(III)I"⟩, 8) := ⟨⟨by decide +kernel, by decide +kernel⟩, List.mem_of_getElem? (i := 20) (by decide +kernel), List.mem_of_getElem? (i := 650) (by decide +kernel), List.mem_of_getElem? (i := 651) (by decide +kernel)⟩
theorem lw_p43 : lw_okq (⟨"PaidInDays", "feverRefusal", "(IIIII)I"⟩, 8) := ⟨⟨by decide +kernel, by decide +kernel⟩, List.mem_of_getElem? (i := 20) (by decide +kernel), List.mem_of_getElem? (i := 659) (by decide +kernel), List.mem_of_getElem? (i := 660) (by decide +kernel)⟩
theorem lw_p44 : lw_okq (⟨"PaidInDays", "refuseLong", "(I)J"⟩, 8) := ⟨⟨by decide +kernel, by decide +kernel⟩, List.mem_of_getElem? (i := 20) (by decide +kernel), List.mem_of_getElem? (i := 663) (by decide +kernel), List.mem_of_getElem? (i := 664) (by decide +kernel)⟩
theorem lw_p45 : lw_okq (⟨"PaidInDays", "tiredByFevers", "(III)I"⟩, 8) := ⟨⟨by decide +kernel, by decide +kernel⟩, List.mem_of_getElem? (i := 20) (by decide +kernel), List.mem_of_getElem? (i := 668) (by decide +kernel), List.mem_of_getElem? (i := 669) (by decide +kernel)⟩
theorem lw_p46 : lw_okq (⟨"PaidInDays", "tiresAsTold", "(I)Z"⟩, 8) := ⟨⟨by decide +kernel, by decide +kernel⟩, List.mem_of_getElem? (i := 20) (by decide +kernel), List.mem_of_getElem? (i := 689) (by decide +kernel), List.mem_of_getElem? (i := 690) (by decide +kernel)⟩
theorem lw_p47 : lw_okq (⟨"PaidInDays$Crew", "allOff", "()I"⟩, 9) := ⟨⟨by decide +kernel, by decide +kernel⟩, List.mem_of_getElem? (i := 28) (by decide +kernel), List.mem_of_getElem? (i := 729) (by decide +kernel), List.mem_of_getElem? (i := 730) (by decide +kernel)⟩
def lw_privs_3 : List (MethodName × Nat) := [(⟨"PaidInDays$Crew", "coveredByNobody", "()I"⟩, 9), (⟨"PaidInDays$Crew", "richest", "()I"⟩, 9), (⟨"PaidInDays$Crew", "meetings", "(II)I"⟩, 9), (⟨"PaidInDays", "allTiredBehind", "(I)I"⟩, 8), (⟨"PaidInDays$Crew", "allTired", "()I"⟩, 9), (⟨"PaidInDays", "bothTiredBehind", "(III)I"⟩, 8), (⟨"PaidInDays", "nobodyFalls", "(II)Z"⟩, 8), (⟨"PaidInDays$Crew", "addOff", "(II)V"⟩, 9), (⟨"PaidInDays", "wagesBehind", "(II)I"⟩, 8), (⟨"PaidInDays", "keepsTo", "(III)Z"⟩, 8), (⟨"PaidInDays", "feltTired", "(III)I"⟩, 8), (⟨"PaidInDays", "feverRefusal", "(IIIII)I"⟩, 8), (⟨"PaidInDays", "refuseLong", "(I)J"⟩, 8), (⟨"PaidInDays", "tiredByFevers", "(III)I"⟩, 8), (⟨"PaidInDays", "tiresAsTold", "(I)Z"⟩, 8), (⟨"PaidInDays$Crew", "allOff", "()I"⟩, 9)]
theorem lw_r3 : ∀ q ∈ lw_privs_3, lw_okq q := List.forall_mem_cons.mpr ⟨lw_p32, List.forall_mem_cons.mpr ⟨lw_p33, List.forall_mem_cons.mpr ⟨lw_p34, List.forall_mem_cons.mpr ⟨lw_p35, List.forall_mem_cons.mpr ⟨lw_p36, List.forall_mem_cons.mpr ⟨lw_p37, List.forall_mem_cons.mpr ⟨lw_p38, List.forall_mem_cons.mpr ⟨lw_p39, List.forall_mem_cons.mpr ⟨lw_p40, List.forall_mem_cons.mpr ⟨lw_p41, List.forall_mem_cons.mpr ⟨lw_p42, List.forall_mem_cons.mpr ⟨lw_p43, List.forall_mem_cons.mpr ⟨lw_p44, List.forall_mem_cons.mpr ⟨lw_p45, List.forall_mem_cons.mpr ⟨lw_p46, List.forall_mem_cons.mpr ⟨lw_p47, fun _ h => absurd h List.not_mem_nil⟩⟩⟩⟩⟩⟩⟩⟩⟩⟩⟩⟩⟩⟩⟩⟩
theorem lw_p48 : lw_okq (⟨"PaidInDaysModel", "no", "(I)I"⟩, 13) := ⟨⟨by decide +kernel, by decide +kernel⟩, List.mem_of_getElem? (i := 733) (by decide +kernel), List.mem_of_getElem? (i := 783) (by decide +kernel), List.mem_of_getElem? (i := 784) (by decide +kernel)⟩
theorem lw_p49 : lw_okq (⟨"PaidInDaysModel", "readsStatement", "()Z"⟩, 13) := ⟨⟨by decide +kernel, by decide +kernel⟩, List.mem_of_getElem? (i := 733) (by decide +kernel), List.mem_of_getElem? (i := 791) (by decide +kernel), List.mem_of_getElem? (i := 792) (by decide +kernel)⟩
theorem lw_p50 : lw_okq (⟨"PaidInDaysModel", "here", "()I"⟩, 13) := ⟨⟨by decide +kernel, by decide +kernel⟩, List.mem_of_getElem? (i := 733) (by decide +kernel), List.mem_of_getElem? (i := 795) (by decide +kernel), List.mem_of_getElem? (i := 796) (by decide +kernel)⟩
theorem lw_p51 : lw_okq (⟨"PaidInDaysModel", "readsKind", "()Z"⟩, 13) := ⟨⟨by decide +kernel, by decide +kernel⟩, List.mem_of_getElem? (i := 733) (by decide +kernel), List.mem_of_getElem? (i := 799) (by decide +kernel), List.mem_of_getElem? (i := 800) (by decide +kernel)⟩
theorem lw_p52 : lw_okq (⟨"PaidInDaysModel", "readsNumber", "(II)Z"⟩, 13) := ⟨⟨by decide +kernel, by decide +kernel⟩, List.mem_of_getElem? (i := 733) (by decide +kernel), List.mem_of_getElem? (i := 806) (by decide +kernel), List.mem_of_getElem? (i := 807) (by decide +kernel)⟩
theorem lw_p53 : lw_okq (⟨"PaidInDaysModel", "isDone", "(I)Z"⟩, 13) := ⟨⟨by decide +kernel, by decide +kernel⟩, List.mem_of_getElem? (i := 733) (by decide +kernel), List.mem_of_getElem? (i := 816) (by decide +kernel), List.mem_of_getElem? (i := 817) (by decide +kernel)⟩
theorem lw_p54 : lw_okq (⟨"PaidInDaysModel", "isWorker", "(I)Z"⟩, 13) := ⟨⟨by decide +kernel, by decide +kernel⟩, List.mem_of_getElem? (i := 733) (by decide +kernel), List.mem_of_getElem? (i := 823) (by decide +kernel), List.mem_of_getElem? (i := 824) (by decide +kernel)⟩
theorem lw_p55 : lw_okq (⟨"PaidInDaysModel", "canGive", "(III)Z"⟩, 13) := ⟨⟨by decide +kernel, by decide +kernel⟩, List.mem_of_getElem? (i := 733) (by decide +kernel), List.mem_of_getElem? (i := 830) (by decide +kernel), List.mem_of_getElem? (i := 831) (by decide +kernel)⟩
theorem lw_p56 : lw_okq (⟨"PaidInDaysModel", "takes", "(I)V"⟩, 13) := ⟨⟨by decide +kernel, by decide +kernel⟩, List.mem_of_getElem? (i := 733) (by decide +kernel), List.mem_of_getElem? (i := 911) (by decide +kernel), List.mem_of_getElem? (i := 912) (by decide +kernel)⟩
theorem lw_p57 : lw_okq (⟨"PaidInDaysModel", "firstFalls", "()I"⟩, 13) := ⟨⟨by decide +kernel, by decide +kernel⟩, List.mem_of_getElem? (i := 733) (by decide +kernel), List.mem_of_getElem? (i := 926) (by decide +kernel), List.mem_of_getElem? (i := 927) (by decide +kernel)⟩
theorem lw_p58 : lw_okq (⟨"PaidInDaysModel", "fallsOf", "(I)I"⟩, 13) := ⟨⟨by decide +kernel, by decide +kernel⟩, List.mem_of_getElem? (i := 733) (by decide +kernel), List.mem_of_getElem? (i := 931) (by decide +kernel), List.mem_of_getElem? (i := 932) (by decide +kernel)⟩
theorem lw_p59 : lw_okq (⟨"PaidInDaysModel", "isPaidDay", "()Z"⟩, 13) := ⟨⟨by decide +kernel, by decide +kernel⟩, List.mem_of_getElem? (i := 733) (by decide +kernel), List.mem_of_getElem? (i := 939) (by decide +kernel), List.mem_of_getElem? (i := 940) (by decide +kernel)⟩
theorem lw_p60 : lw_okq (⟨"PaidInDaysModel", "offOn", "(I)I"⟩, 13) := ⟨⟨by decide +kernel, by decide +kernel⟩, List.mem_of_getElem? (i := 733) (by decide +kernel), List.mem_of_getElem? (i := 950) (by decide +kernel), List.mem_of_getElem? (i := 951) (by decide +kernel)⟩
theorem lw_p61 : lw_okq (⟨"PaidInDaysModel", "bothIn", "(II)I"⟩, 13) := ⟨⟨by decide +kernel, by decide +kernel⟩, List.mem_of_getElem? (i := 733) (by decide +kernel), List.mem_of_getElem? (i := 958) (by decide +kernel), List.mem_of_getElem? (i := 959) (by decide +kernel)⟩
theorem lw_p62 : lw_okq (⟨"PaidInDaysModel", "tiredNow", "(I)I"⟩, 13) := ⟨⟨by decide +kernel, by decide +kernel⟩, List.mem_of_getElem? (i := 733) (by decide +kernel), List.mem_of_getElem? (i := 974) (by decide +kernel), List.mem_of_getElem? (i := 975) (by decide +kernel)⟩
theorem lw_p63 : lw_okq (⟨"PaidInDaysModel", "doesNobodyFall", "(I)Z"⟩, 13) := ⟨⟨by decide +kernel, by decide +kernel⟩, List.mem_of_getElem? (i := 733) (by decide +kernel), List.mem_of_getElem? (i := 993) (by decide +kernel), List.mem_of_getElem? (i := 994) (by decide +kernel)⟩
def lw_privs_4 : List (MethodName × Nat) := [(⟨"PaidInDaysModel", "no", "(I)I"⟩, 13), (⟨"PaidInDaysModel", "readsStatement", "()Z"⟩, 13), (⟨"PaidInDaysModel", "here", "()I"⟩, 13), (⟨"PaidInDaysModel", "readsKind", "()Z"⟩, 13), (⟨"PaidInDaysModel", "readsNumber", "(II)Z"⟩, 13), (⟨"PaidInDaysModel", "isDone", "(I)Z"⟩, 13), (⟨"PaidInDaysModel", "isWorker", "(I)Z"⟩, 13), (⟨"PaidInDaysModel", "canGive", "(III)Z"⟩, 13), (⟨"PaidInDaysModel", "takes", "(I)V"⟩, 13), (⟨"PaidInDaysModel", "firstFalls", "()I"⟩, 13), (⟨"PaidInDaysModel", "fallsOf", "(I)I"⟩, 13), (⟨"PaidInDaysModel", "isPaidDay", "()Z"⟩, 13), (⟨"PaidInDaysModel", "offOn", "(I)I"⟩, 13), (⟨"PaidInDaysModel", "bothIn", "(II)I"⟩, 13), (⟨"PaidInDaysModel", "tiredNow", "(I)I"⟩, 13), (⟨"PaidInDaysModel", "doesNobodyFall", "(I)Z"⟩, 13)]
theorem lw_r4 : ∀ q ∈ lw_privs_4, lw_okq q := List.forall_mem_cons.mpr ⟨lw_p48, List.forall_mem_cons.mpr ⟨lw_p49, List.forall_mem_cons.mpr ⟨lw_p50, List.forall_mem_cons.mpr ⟨lw_p51, List.forall_mem_cons.mpr ⟨lw_p52, List.forall_mem_cons.mpr ⟨lw_p53, List.forall_mem_cons.mpr ⟨lw_p54, List.forall_mem_cons.mpr ⟨lw_p55, List.forall_mem_cons.mpr ⟨lw_p56, List.forall_mem_cons.mpr ⟨lw_p57, List.forall_mem_cons.mpr ⟨lw_p58, List.forall_mem_cons.mpr ⟨lw_p59, List.forall_mem_cons.mpr ⟨lw_p60, List.forall_mem_cons.mpr ⟨lw_p61, List.forall_mem_cons.mpr ⟨lw_p62, List.forall_mem_cons.mpr ⟨lw_p63, fun _ h => absurd h List.not_mem_nil⟩⟩⟩⟩⟩⟩⟩⟩⟩⟩⟩⟩⟩⟩⟩⟩
theorem lw_p64 : lw_okq (⟨"PaidInDaysModel", "costBy", "(IIIIII)I"⟩, 13) := ⟨⟨by decide +kernel, by decide +kernel⟩, List.mem_of_getElem? (i := 733) (by decide +kernel), List.mem_of_getElem? (i := 1009) (by decide +kernel), List.mem_of_getElem? (i := 1010) (by decide +kernel)⟩
theorem lw_p65 : lw_okq (⟨"PaidInDaysModel", "noWide", "(I)J"⟩, 13) := ⟨⟨by decide +kernel, by decide +kernel⟩, List.mem_of_getElem? (i := 733) (by decide +kernel), List.mem_of_getElem? (i := 1017) (by decide +kernel), List.mem_of_getElem? (i := 1018) (by decide +kernel)⟩
theorem lw_p66 : lw_okq (⟨"PaidInDaysModel", "drawn", "(I)I"⟩, 13) := ⟨⟨by decide +kernel, by decide +kernel⟩, List.mem_of_getElem? (i := 733) (by decide +kernel), List.mem_of_getElem? (i := 1052) (by decide +kernel), List.mem_of_getElem? (i := 1053) (by decide +kernel)⟩
def lw_privs_5 : List (MethodName × Nat) := [(⟨"PaidInDaysModel", "costBy", "(IIIIII)I"⟩, 13), (⟨"PaidInDaysModel", "noWide", "(I)J"⟩, 13), (⟨"PaidInDaysModel", "drawn", "(I)I"⟩, 13)]
theorem lw_r5 : ∀ q ∈ lw_privs_5, lw_okq q := List.forall_mem_cons.mpr ⟨lw_p64, List.forall_mem_cons.mpr ⟨lw_p65, List.forall_mem_cons.mpr ⟨lw_p66, fun _ h => absurd h List.not_mem_nil⟩⟩⟩
def lw_privs : List (MethodName × Nat) := lw_privs_1 ++ (lw_privs_2 ++ (lw_privs_3 ++ (lw_privs_4 ++ (lw_privs_5))))
def lw_tbl : List Cond := k2_sels lw_privs ++ tables_1
theorem lw_privs_ok : ∀ q ∈ lw_privs, lw_okq q := by
  show ∀ q ∈ lw_privs_1 ++ (lw_privs_2 ++ (lw_privs_3 ++ (lw_privs_4 ++ (lw_privs_5)))), lw_okq q
  exact List.forall_mem_append.mpr ⟨lw_r1, List.forall_mem_append.mpr ⟨lw_r2, List.forall_mem_append.mpr ⟨lw_r3, List.forall_mem_append.mpr ⟨lw_r4, lw_r5⟩⟩⟩⟩
-- ===== end of PART A; then your names; then what follows =====
def RX0 : String := "PaidInDays$BoyKind"
def TX0 : u_T := fun k => match k with
  | _ => ("", "", "", false)
def tyX0 : Nat → FieldType := fun k => match k with
  | _ => .int
abbrev wsX00 : List Cond := u_ws RX0 TX0 0
theorem nmX0 : ∀ a, a < 0 → ∀ b, b < 0 → a ≠ b → (TX0 a).2.1 ≠ (TX0 b).2.1 := by decide +kernel
theorem tyX0_ok : ∀ k, k < 0 → parseFieldDescriptor (TX0 k).2.2.1 = some (tyX0 k) := by decide +kernel
abbrev cX0_init : ByteArray := prog_2_method_1_code
def yX0_init : MethodName := ⟨RX0, "<init>", "()V"⟩
abbrev cX0_dueAfter : ByteArray := prog_2_method_2_code
def yX0_dueAfter : MethodName := ⟨RX0, "dueAfter", "(I)I"⟩
abbrev cX0_choosePayer : ByteArray := prog_2_method_3_code
def yX0_choosePayer : MethodName := ⟨RX0, "choosePayer", "(LPaidInDays$Crew;I)I"⟩
def RX1 : String := "PaidInDays$Crew"
def TX1 : u_T := fun k => match k with
  | 0 => ("PaidInDays$Crew", "kinds", "[LPaidInDays$WorkerKind;", true)
  | 1 => ("PaidInDays$Crew", "kind", "[I", true)
  | 2 => ("PaidInDays$Crew", "figure", "[I", true)
  | 3 => ("PaidInDays$Crew", "off", "[I", true)
  | 4 => ("PaidInDays$Crew", "tired", "[I", true)
  | 5 => ("PaidInDays$Crew", "due", "[I", true)
  | 6 => ("PaidInDays$Crew", "size", "I", false)
  | 7 => ("PaidInDays$Crew", "wages", "I", false)
  | _ => ("PaidInDays$Crew", "day", "I", false)
def tyX1 : Nat → FieldType := fun k => match k with
  | 0 => .array (.object "PaidInDays$WorkerKind")
  | 1 => .array .int
  | 2 => .array .int
  | 3 => .array .int
  | 4 => .array .int
  | 5 => .array .int
  | 6 => .int
  | 7 => .int
  | _ => .int
abbrev wsX10 : List Cond := u_ws RX1 TX1 9
theorem nmX1 : ∀ a, a < 9 → ∀ b, b < 9 → a ≠ b → (TX1 a).2.1 ≠ (TX1 b).2.1 := by decide +kernel
theorem tyX1_ok : ∀ k, k < 9 → parseFieldDescriptor (TX1 k).2.2.1 = some (tyX1 k) := by decide +kernel
abbrev cX1_init : ByteArray := prog_3_method_1_code
def yX1_init : MethodName := ⟨RX1, "<init>", "()V"⟩
abbrev cX1_become : ByteArray := prog_3_method_2_code
def yX1_become : MethodName := ⟨RX1, "become", "(LPaidInDays$Crew;)V"⟩
abbrev cX1_hasRoom : ByteArray := prog_3_method_3_code
def yX1_hasRoom : MethodName := ⟨RX1, "hasRoom", "()Z"⟩
abbrev cX1_hire : ByteArray := prog_3_method_4_code
def yX1_hire : MethodName := ⟨RX1, "hire", "(III)V"⟩
abbrev cX1_has : ByteArray := prog_3_method_5_code
def yX1_has : MethodName := ⟨RX1, "has", "(I)Z"⟩
abbrev cX1_weekday : ByteArray := prog_3_method_6_code
def yX1_weekday : MethodName := ⟨RX1, "weekday", "()I"⟩
abbrev cX1_isOff : ByteArray := prog_3_method_7_code
def yX1_isOff : MethodName := ⟨RX1, "isOff", "(II)Z"⟩
abbrev cX1_change : ByteArray := prog_3_method_8_code
def yX1_change : MethodName := ⟨RX1, "change", "(II)V"⟩
abbrev cX1_canHand : ByteArray := prog_3_method_9_code
def yX1_canHand : MethodName := ⟨RX1, "canHand", "(III)Z"⟩
abbrev cX1_hand : ByteArray := prog_3_method_10_code
def yX1_hand : MethodName := ⟨RX1, "hand", "(III)V"⟩
abbrev cX1_addOff : ByteArray := prog_3_method_11_code
def yX1_addOff : MethodName := ⟨RX1, "addOff", "(II)V"⟩
abbrev cX1_passDays : ByteArray := prog_3_method_12_code
def yX1_passDays : MethodName := ⟨RX1, "passDays", "(II)I"⟩
abbrev cX1_isPaidAtWork : ByteArray := prog_3_method_13_code
def yX1_isPaidAtWork : MethodName := ⟨RX1, "isPaidAtWork", "(IZ)Z"⟩
abbrev cX1_ruleOf : ByteArray := prog_3_method_14_code
def yX1_ruleOf : MethodName := ⟨RX1, "ruleOf", "(I)LPaidInDays$WorkerKind;"⟩
abbrev cX1_offered : ByteArray := prog_3_method_15_code
def yX1_offered : MethodName := ⟨RX1, "offered", "(II)I"⟩
abbrev cX1_whoIsIn : ByteArray := prog_3_method_16_code
def yX1_whoIsIn : MethodName := ⟨RX1, "whoIsIn", "(I)I"⟩
abbrev cX1_whoFell : ByteArray := prog_3_method_17_code
def yX1_whoFell : MethodName := ⟨RX1, "whoFell", "()I"⟩
abbrev cX1_offOn : ByteArray := prog_3_method_18_code
def yX1_offOn : MethodName := ⟨RX1, "offOn", "(I)I"⟩
abbrev cX1_strikeDay : ByteArray := prog_3_method_19_code
def yX1_strikeDay : MethodName := ⟨RX1, "strikeDay", "()I"⟩
abbrev cX1_coveredByNobody : ByteArray := prog_3_method_20_code
def yX1_coveredByNobody : MethodName := ⟨RX1, "coveredByNobody", "()I"⟩
abbrev cX1_richest : ByteArray := prog_3_method_21_code
def yX1_richest : MethodName := ⟨RX1, "richest", "()I"⟩
abbrev cX1_meetings : ByteArray := prog_3_method_22_code
def yX1_meetings : MethodName := ⟨RX1, "meetings", "(II)I"⟩
abbrev cX1_allOff : ByteArray := prog_3_method_23_code
def yX1_allOff : MethodName := ⟨RX1, "allOff", "()I"⟩
abbrev cX1_allTired : ByteArray := prog_3_method_24_code
def yX1_allTired : MethodName := ⟨RX1, "allTired", "()I"⟩
def RX2 : String := "PaidInDays$ForemanKind"
def TX2 : u_T := fun k => match k with
  | _ => ("", "", "", false)
def tyX2 : Nat → FieldType := fun k => match k with
  | _ => .int
abbrev wsX20 : List Cond := u_ws RX2 TX2 0
theorem nmX2 : ∀ a, a < 0 → ∀ b, b < 0 → a ≠ b → (TX2 a).2.1 ≠ (TX2 b).2.1 := by decide +kernel
theorem tyX2_ok : ∀ k, k < 0 → parseFieldDescriptor (TX2 k).2.2.1 = some (tyX2 k) := by decide +kernel
abbrev cX2_init : ByteArray := prog_4_method_1_code
def yX2_init : MethodName := ⟨RX2, "<init>", "()V"⟩
abbrev cX2_dueAfter : ByteArray := prog_4_method_2_code
def yX2_dueAfter : MethodName := ⟨RX2, "dueAfter", "(I)I"⟩
abbrev cX2_choosePayer : ByteArray := prog_4_method_3_code
def yX2_choosePayer : MethodName := ⟨RX2, "choosePayer", "(LPaidInDays$Crew;I)I"⟩
def RX3 : String := "PaidInDays$HardKind"
def TX3 : u_T := fun k => match k with
  | _ => ("", "", "", false)
def tyX3 : Nat → FieldType := fun k => match k with
  | _ => .int
abbrev wsX30 : List Cond := u_ws RX3 TX3 0
theorem nmX3 : ∀ a, a < 0 → ∀ b, b < 0 → a ≠ b → (TX3 a).2.1 ≠ (TX3 b).2.1 := by decide +kernel
theorem tyX3_ok : ∀ k, k < 0 → parseFieldDescriptor (TX3 k).2.2.1 = some (tyX3 k) := by decide +kernel
abbrev cX3_init : ByteArray := prog_5_method_1_code
def yX3_init : MethodName := ⟨RX3, "<init>", "()V"⟩
abbrev cX3_choosePayer : ByteArray := prog_5_method_2_code
def yX3_choosePayer : MethodName := ⟨RX3, "choosePayer", "(LPaidInDays$Crew;I)I"⟩
def RX4 : String := "PaidInDays$MildKind"
def TX4 : u_T := fun k => match k with
  | _ => ("", "", "", false)
def tyX4 : Nat → FieldType := fun k => match k with
  | _ => .int
abbrev wsX40 : List Cond := u_ws RX4 TX4 0
theorem nmX4 : ∀ a, a < 0 → ∀ b, b < 0 → a ≠ b → (TX4 a).2.1 ≠ (TX4 b).2.1 := by decide +kernel
theorem tyX4_ok : ∀ k, k < 0 → parseFieldDescriptor (TX4 k).2.2.1 = some (tyX4 k) := by decide +kernel
abbrev cX4_init : ByteArray := prog_6_method_1_code
def yX4_init : MethodName := ⟨RX4, "<init>", "()V"⟩
abbrev cX4_dueAfter : ByteArray := prog_6_method_2_code
def yX4_dueAfter : MethodName := ⟨RX4, "dueAfter", "(I)I"⟩
def RX5 : String := "PaidInDays$Telling"
def TX5 : u_T := fun k => match k with
  | 0 => ("PaidInDays$Telling", "letters", "[C", true)
  | _ => ("PaidInDays$Telling", "size", "I", false)
def tyX5 : Nat → FieldType := fun k => match k with
  | 0 => .array .char
  | _ => .int
abbrev wsX50 : List Cond := u_ws RX5 TX5 2
theorem nmX5 : ∀ a, a < 2 → ∀ b, b < 2 → a ≠ b → (TX5 a).2.1 ≠ (TX5 b).2.1 := by decide +kernel
theorem tyX5_ok : ∀ k, k < 2 → parseFieldDescriptor (TX5 k).2.2.1 = some (tyX5 k) := by decide +kernel
abbrev cX5_init : ByteArray := prog_7_method_1_code
def yX5_init : MethodName := ⟨RX5, "<init>", "()V"⟩
abbrev cX5_isFull : ByteArray := prog_7_method_2_code
def yX5_isFull : MethodName := ⟨RX5, "isFull", "()Z"⟩
abbrev cX5_add : ByteArray := prog_7_method_3_code
def yX5_add : MethodName := ⟨RX5, "add", "(C)V"⟩
abbrev cX5_forget : ByteArray := prog_7_method_4_code
def yX5_forget : MethodName := ⟨RX5, "forget", "()V"⟩
abbrev cX5_firstWrongLetter : ByteArray := prog_7_method_5_code
def yX5_firstWrongLetter : MethodName := ⟨RX5, "firstWrongLetter", "()I"⟩
abbrev cX5_shapeAt : ByteArray := prog_7_method_6_code
def yX5_shapeAt : MethodName := ⟨RX5, "shapeAt", "(I)Ljava/lang/String;"⟩
abbrev cX5_isAs : ByteArray := prog_7_method_7_code
def yX5_isAs : MethodName := ⟨RX5, "isAs", "(CC)Z"⟩
abbrev cX5_number : ByteArray := prog_7_method_8_code
def yX5_number : MethodName := ⟨RX5, "number", "(II)I"⟩
abbrev cX5_isObeyed : ByteArray := prog_7_method_9_code
def yX5_isObeyed : MethodName := ⟨RX5, "isObeyed", "(ILPaidInDays$Crew;)Z"⟩
abbrev cX5_hires : ByteArray := prog_7_method_10_code
def yX5_hires : MethodName := ⟨RX5, "hires", "(ILPaidInDays$Crew;)Z"⟩
abbrev cX5_changesOff : ByteArray := prog_7_method_11_code
def yX5_changesOff : MethodName := ⟨RX5, "changesOff", "(ILPaidInDays$Crew;)Z"⟩
abbrev cX5_setsTired : ByteArray := prog_7_method_12_code
def yX5_setsTired : MethodName := ⟨RX5, "setsTired", "(ILPaidInDays$Crew;)Z"⟩
abbrev cX5_handsOver : ByteArray := prog_7_method_13_code
def yX5_handsOver : MethodName := ⟨RX5, "handsOver", "(ILPaidInDays$Crew;)Z"⟩
abbrev cX5_letsPass : ByteArray := prog_7_method_14_code
def yX5_letsPass : MethodName := ⟨RX5, "letsPass", "(ILPaidInDays$Crew;)Z"⟩
def RX6 : String := "PaidInDays$TraderKind"
def TX6 : u_T := fun k => match k with
  | _ => ("", "", "", false)
def tyX6 : Nat → FieldType := fun k => match k with
  | _ => .int
abbrev wsX60 : List Cond := u_ws RX6 TX6 0
theorem nmX6 : ∀ a, a < 0 → ∀ b, b < 0 → a ≠ b → (TX6 a).2.1 ≠ (TX6 b).2.1 := by decide +kernel
theorem tyX6_ok : ∀ k, k < 0 → parseFieldDescriptor (TX6 k).2.2.1 = some (tyX6 k) := by decide +kernel
abbrev cX6_init : ByteArray := prog_8_method_1_code
def yX6_init : MethodName := ⟨RX6, "<init>", "()V"⟩
abbrev cX6_chooseWeekday : ByteArray := prog_8_method_2_code
def yX6_chooseWeekday : MethodName := ⟨RX6, "chooseWeekday", "(I)I"⟩
def RX7 : String := "PaidInDays$WorkerKind"
def TX7 : u_T := fun k => match k with
  | _ => ("", "", "", false)
def tyX7 : Nat → FieldType := fun k => match k with
  | _ => .int
abbrev wsX70 : List Cond := u_ws RX7 TX7 0
theorem nmX7 : ∀ a, a < 0 → ∀ b, b < 0 → a ≠ b → (TX7 a).2.1 ≠ (TX7 b).2.1 := by decide +kernel
theorem tyX7_ok : ∀ k, k < 0 → parseFieldDescriptor (TX7 k).2.2.1 = some (tyX7 k) := by decide +kernel
abbrev cX7_init : ByteArray := prog_9_method_1_code
def yX7_init : MethodName := ⟨RX7, "<init>", "()V"⟩
abbrev cX7_dueAfter : ByteArray := prog_9_method_2_code
def yX7_dueAfter : MethodName := ⟨RX7, "dueAfter", "(I)I"⟩
abbrev cX7_choosePayer : ByteArray := prog_9_method_3_code
def yX7_choosePayer : MethodName := ⟨RX7, "choosePayer", "(LPaidInDays$Crew;I)I"⟩
abbrev cX7_chooseWeekday : ByteArray := prog_9_method_4_code
def yX7_chooseWeekday : MethodName := ⟨RX7, "chooseWeekday", "(I)I"⟩
def RX8 : String := "PaidInDays"
def TX8 : u_T := fun k => match k with
  | 0 => ("PaidInDays", "now", "LPaidInDays$Crew;", true)
  | 1 => ("PaidInDays", "mind", "LPaidInDays$Crew;", true)
  | 2 => ("PaidInDays", "kept", "LPaidInDays$Crew;", true)
  | 3 => ("PaidInDays", "hasKept", "Z", false)
  | 4 => ("PaidInDays", "telling", "LPaidInDays$Telling;", true)
  | 5 => ("PaidInDays", "told", "[I", true)
  | 6 => ("PaidInDays", "toldCount", "I", false)
  | _ => ("PaidInDays", "refusals", "[I", true)
def tyX8 : Nat → FieldType := fun k => match k with
  | 0 => .object "PaidInDays$Crew"
  | 1 => .object "PaidInDays$Crew"
  | 2 => .object "PaidInDays$Crew"
  | 3 => .boolean
  | 4 => .object "PaidInDays$Telling"
  | 5 => .array .int
  | 6 => .int
  | _ => .array .int
abbrev wsX80 : List Cond := u_ws RX8 TX8 8
theorem nmX8 : ∀ a, a < 8 → ∀ b, b < 8 → a ≠ b → (TX8 a).2.1 ≠ (TX8 b).2.1 := by decide +kernel
theorem tyX8_ok : ∀ k, k < 8 → parseFieldDescriptor (TX8 k).2.2.1 = some (tyX8 k) := by decide +kernel
abbrev cX8_init : ByteArray := prog_1_method_1_code
def yX8_init : MethodName := ⟨RX8, "<init>", "()V"⟩
abbrev cX8_letter : ByteArray := prog_1_method_2_code
def yX8_letter : MethodName := ⟨RX8, "letter", "(I)I"⟩
abbrev cX8_works : ByteArray := prog_1_method_3_code
def yX8_works : MethodName := ⟨RX8, "works", "()I"⟩
abbrev cX8_worker : ByteArray := prog_1_method_4_code
def yX8_worker : MethodName := ⟨RX8, "worker", "(II)I"⟩
abbrev cX8_from : ByteArray := prog_1_method_5_code
def yX8_from : MethodName := ⟨RX8, "from", "(II)I"⟩
abbrev cX8_frees : ByteArray := prog_1_method_6_code
def yX8_frees : MethodName := ⟨RX8, "frees", "(II)I"⟩
abbrev cX8_gives : ByteArray := prog_1_method_7_code
def yX8_gives : MethodName := ⟨RX8, "gives", "(III)I"⟩
abbrev cX8_rests : ByteArray := prog_1_method_8_code
def yX8_rests : MethodName := ⟨RX8, "rests", "(II)I"⟩
abbrev cX8_turn : ByteArray := prog_1_method_9_code
def yX8_turn : MethodName := ⟨RX8, "turn", "(III)I"⟩
abbrev cX8_days : ByteArray := prog_1_method_10_code
def yX8_days : MethodName := ⟨RX8, "days", "(I)I"⟩
abbrev cX8_workerThen : ByteArray := prog_1_method_11_code
def yX8_workerThen : MethodName := ⟨RX8, "workerThen", "(III)I"⟩
abbrev cX8_then : ByteArray := prog_1_method_12_code
def yX8_then : MethodName := ⟨RX8, "then", "(II)I"⟩
abbrev cX8_falls : ByteArray := prog_1_method_13_code
def yX8_falls : MethodName := ⟨RX8, "falls", "(I)I"⟩
abbrev cX8_still : ByteArray := prog_1_method_14_code
def yX8_still : MethodName := ⟨RX8, "still", "()I"⟩
abbrev cX8_strike : ByteArray := prog_1_method_15_code
def yX8_strike : MethodName := ⟨RX8, "strike", "(I)I"⟩
abbrev cX8_meet : ByteArray := prog_1_method_16_code
def yX8_meet : MethodName := ⟨RX8, "meet", "(II)I"⟩
abbrev cX8_never : ByteArray := prog_1_method_17_code
def yX8_never : MethodName := ⟨RX8, "never", "(I)I"⟩
abbrev cX8_rest : ByteArray := prog_1_method_18_code
def yX8_rest : MethodName := ⟨RX8, "rest", "(I)I"⟩
abbrev cX8_gift : ByteArray := prog_1_method_19_code
def yX8_gift : MethodName := ⟨RX8, "gift", "(III)I"⟩
abbrev cX8_trade : ByteArray := prog_1_method_20_code
def yX8_trade : MethodName := ⟨RX8, "trade", "(III)I"⟩
abbrev cX8_better : ByteArray := prog_1_method_21_code
def yX8_better : MethodName := ⟨RX8, "better", "(III)I"⟩
abbrev cX8_fewest : ByteArray := prog_1_method_22_code
def yX8_fewest : MethodName := ⟨RX8, "fewest", "(I)I"⟩
abbrev cX8_send : ByteArray := prog_1_method_23_code
def yX8_send : MethodName := ⟨RX8, "send", "(I)I"⟩
abbrev cX8_holiday : ByteArray := prog_1_method_24_code
def yX8_holiday : MethodName := ⟨RX8, "holiday", "(II)I"⟩
abbrev cX8_two : ByteArray := prog_1_method_25_code
def yX8_two : MethodName := ⟨RX8, "two", "(III)I"⟩
abbrev cX8_fever : ByteArray := prog_1_method_26_code
def yX8_fever : MethodName := ⟨RX8, "fever", "(IIIII)J"⟩
abbrev cX8_mean : ByteArray := prog_1_method_27_code
def yX8_mean : MethodName := ⟨RX8, "mean", "(I)J"⟩
abbrev cX8_whatIs : ByteArray := prog_1_method_28_code
def yX8_whatIs : MethodName := ⟨RX8, "whatIs", "(II)I"⟩
abbrev cX8_row : ByteArray := prog_1_method_29_code
def yX8_row : MethodName := ⟨RX8, "row", "(I)I"⟩
abbrev cX8_judge : ByteArray := prog_1_method_30_code
def yX8_judge : MethodName := ⟨RX8, "judge", "()I"⟩
abbrev cX8_clear : ByteArray := prog_1_method_31_code
def yX8_clear : MethodName := ⟨RX8, "clear", "()I"⟩
abbrev cX8_lots : ByteArray := prog_1_method_32_code
def yX8_lots : MethodName := ⟨RX8, "lots", "(III)I"⟩
abbrev cX8_image : ByteArray := prog_1_method_33_code
def yX8_image : MethodName := ⟨RX8, "image", "()I"⟩
abbrev cX8_on : ByteArray := prog_1_method_34_code
def yX8_on : MethodName := ⟨RX8, "on", "()I"⟩
abbrev cX8_count : ByteArray := prog_1_method_35_code
def yX8_count : MethodName := ⟨RX8, "count", "(I)I"⟩
abbrev cX8_refuse : ByteArray := prog_1_method_36_code
def yX8_refuse : MethodName := ⟨RX8, "refuse", "(I)I"⟩
abbrev cX8_refuseLong : ByteArray := prog_1_method_37_code
def yX8_refuseLong : MethodName := ⟨RX8, "refuseLong", "(I)J"⟩
abbrev cX8_outside : ByteArray := prog_1_method_38_code
def yX8_outside : MethodName := ⟨RX8, "outside", "(III)I"⟩
abbrev cX8_isEither : ByteArray := prog_1_method_39_code
def yX8_isEither : MethodName := ⟨RX8, "isEither", "(I)Z"⟩
abbrev cX8_isWeekday : ByteArray := prog_1_method_40_code
def yX8_isWeekday : MethodName := ⟨RX8, "isWeekday", "(I)Z"⟩
abbrev cX8_hasBit : ByteArray := prog_1_method_41_code
def yX8_hasBit : MethodName := ⟨RX8, "hasBit", "(II)Z"⟩
abbrev cX8_areTwo : ByteArray := prog_1_method_42_code
def yX8_areTwo : MethodName := ⟨RX8, "areTwo", "(II)Z"⟩
abbrev cX8_daysTillFall : ByteArray := prog_1_method_43_code
def yX8_daysTillFall : MethodName := ⟨RX8, "daysTillFall", "(II)I"⟩
abbrev cX8_nobodyFalls : ByteArray := prog_1_method_44_code
def yX8_nobodyFalls : MethodName := ⟨RX8, "nobodyFalls", "(II)Z"⟩
abbrev cX8_allTiredBehind : ByteArray := prog_1_method_45_code
def yX8_allTiredBehind : MethodName := ⟨RX8, "allTiredBehind", "(I)I"⟩
abbrev cX8_bothTiredBehind : ByteArray := prog_1_method_46_code
def yX8_bothTiredBehind : MethodName := ⟨RX8, "bothTiredBehind", "(III)I"⟩
abbrev cX8_wagesBehind : ByteArray := prog_1_method_47_code
def yX8_wagesBehind : MethodName := ⟨RX8, "wagesBehind", "(II)I"⟩
abbrev cX8_keepsTo : ByteArray := prog_1_method_48_code
def yX8_keepsTo : MethodName := ⟨RX8, "keepsTo", "(III)Z"⟩
abbrev cX8_feltTired : ByteArray := prog_1_method_49_code
def yX8_feltTired : MethodName := ⟨RX8, "feltTired", "(III)I"⟩
abbrev cX8_feverRefusal : ByteArray := prog_1_method_50_code
def yX8_feverRefusal : MethodName := ⟨RX8, "feverRefusal", "(IIIII)I"⟩
abbrev cX8_tiredByFevers : ByteArray := prog_1_method_51_code
def yX8_tiredByFevers : MethodName := ⟨RX8, "tiredByFevers", "(III)I"⟩
abbrev cX8_waysOfFevers : ByteArray := prog_1_method_52_code
def yX8_waysOfFevers : MethodName := ⟨RX8, "waysOfFevers", "(III)J"⟩
abbrev cX8_partOf : ByteArray := prog_1_method_53_code
def yX8_partOf : MethodName := ⟨RX8, "partOf", "(JJI)J"⟩
abbrev cX8_commonDivisor : ByteArray := prog_1_method_54_code
def yX8_commonDivisor : MethodName := ⟨RX8, "commonDivisor", "(JJ)J"⟩
abbrev cX8_tiresAsTold : ByteArray := prog_1_method_55_code
def yX8_tiresAsTold : MethodName := ⟨RX8, "tiresAsTold", "(I)Z"⟩
abbrev cX8_nextSeed : ByteArray := prog_1_method_56_code
def yX8_nextSeed : MethodName := ⟨RX8, "nextSeed", "(I)I"⟩
abbrev cX8_drawn : ByteArray := prog_1_method_57_code
def yX8_drawn : MethodName := ⟨RX8, "drawn", "(II)I"⟩
def RX9 : String := "PaidInDaysModel"
def TX9 : u_T := fun k => match k with
  | 0 => ("PaidInDaysModel", "s", "[I", true)
  | 1 => ("PaidInDaysModel", "m", "[I", true)
  | 2 => ("PaidInDaysModel", "image", "[I", true)
  | 3 => ("PaidInDaysModel", "was", "[I", true)
  | 4 => ("PaidInDaysModel", "hasImage", "Z", false)
  | 5 => ("PaidInDaysModel", "letters", "[I", true)
  | 6 => ("PaidInDaysModel", "row", "[I", true)
  | 7 => ("PaidInDaysModel", "refused", "[I", true)
  | 8 => ("PaidInDaysModel", "letterMany", "I", false)
  | 9 => ("PaidInDaysModel", "rowMany", "I", false)
  | 10 => ("PaidInDaysModel", "place", "I", false)
  | 11 => ("PaidInDaysModel", "numbers", "[I", true)
  | _ => ("PaidInDaysModel", "seed", "I", false)
def tyX9 : Nat → FieldType := fun k => match k with
  | 0 => .array .int
  | 1 => .array .int
  | 2 => .array .int
  | 3 => .array .int
  | 4 => .boolean
  | 5 => .array .int
  | 6 => .array .int
  | 7 => .array .int
  | 8 => .int
  | 9 => .int
  | 10 => .int
  | 11 => .array .int
  | _ => .int
abbrev wsX90 : List Cond := u_ws RX9 TX9 13
theorem nmX9 : ∀ a, a < 13 → ∀ b, b < 13 → a ≠ b → (TX9 a).2.1 ≠ (TX9 b).2.1 := by decide +kernel
theorem tyX9_ok : ∀ k, k < 13 → parseFieldDescriptor (TX9 k).2.2.1 = some (tyX9 k) := by decide +kernel
abbrev cX9_init : ByteArray := prog_11_method_1_code
def yX9_init : MethodName := ⟨RX9, "<init>", "()V"⟩
abbrev cX9_isIn : ByteArray := prog_11_method_2_code
def yX9_isIn : MethodName := ⟨RX9, "isIn", "(III)Z"⟩
abbrev cX9_least : ByteArray := prog_11_method_3_code
def yX9_least : MethodName := ⟨RX9, "least", "(II)I"⟩
abbrev cX9_copies : ByteArray := prog_11_method_4_code
def yX9_copies : MethodName := ⟨RX9, "copies", "([I[I)V"⟩
abbrev cX9_no : ByteArray := prog_11_method_5_code
def yX9_no : MethodName := ⟨RX9, "no", "(I)I"⟩
abbrev cX9_noWide : ByteArray := prog_11_method_6_code
def yX9_noWide : MethodName := ⟨RX9, "noWide", "(I)J"⟩
abbrev cX9_of : ByteArray := prog_11_method_7_code
def yX9_of : MethodName := ⟨RX9, "of", "(II)I"⟩
abbrev cX9_isWorker : ByteArray := prog_11_method_8_code
def yX9_isWorker : MethodName := ⟨RX9, "isWorker", "(I)Z"⟩
abbrev cX9_isWeekday : ByteArray := prog_11_method_9_code
def yX9_isWeekday : MethodName := ⟨RX9, "isWeekday", "(I)Z"⟩
abbrev cX9_has : ByteArray := prog_11_method_10_code
def yX9_has : MethodName := ⟨RX9, "has", "(II)Z"⟩
abbrev cX9_bits : ByteArray := prog_11_method_11_code
def yX9_bits : MethodName := ⟨RX9, "bits", "(I)I"⟩
abbrev cX9_paidBehind : ByteArray := prog_11_method_12_code
def yX9_paidBehind : MethodName := ⟨RX9, "paidBehind", "(II)I"⟩
abbrev cX9_wanted : ByteArray := prog_11_method_13_code
def yX9_wanted : MethodName := ⟨RX9, "wanted", "([III)I"⟩
abbrev cX9_roundFrom : ByteArray := prog_11_method_14_code
def yX9_roundFrom : MethodName := ⟨RX9, "roundFrom", "([III)I"⟩
abbrev cX9_richestFrom : ByteArray := prog_11_method_15_code
def yX9_richestFrom : MethodName := ⟨RX9, "richestFrom", "([II)I"⟩
abbrev cX9_leastFrom : ByteArray := prog_11_method_16_code
def yX9_leastFrom : MethodName := ⟨RX9, "leastFrom", "([II)I"⟩
abbrev cX9_fromWhom : ByteArray := prog_11_method_17_code
def yX9_fromWhom : MethodName := ⟨RX9, "fromWhom", "([II)I"⟩
abbrev cX9_whichOf : ByteArray := prog_11_method_18_code
def yX9_whichOf : MethodName := ⟨RX9, "whichOf", "([III)I"⟩
abbrev cX9_movesDay : ByteArray := prog_11_method_19_code
def yX9_movesDay : MethodName := ⟨RX9, "movesDay", "([IIII)V"⟩
abbrev cX9_isPaid : ByteArray := prog_11_method_20_code
def yX9_isPaid : MethodName := ⟨RX9, "isPaid", "([II)V"⟩
abbrev cX9_day : ByteArray := prog_11_method_21_code
def yX9_day : MethodName := ⟨RX9, "day", "([II)V"⟩
abbrev cX9_daysOn : ByteArray := prog_11_method_22_code
def yX9_daysOn : MethodName := ⟨RX9, "daysOn", "([II)V"⟩
abbrev cX9_inOn : ByteArray := prog_11_method_23_code
def yX9_inOn : MethodName := ⟨RX9, "inOn", "([II)I"⟩
abbrev cX9_allTired : ByteArray := prog_11_method_24_code
def yX9_allTired : MethodName := ⟨RX9, "allTired", "([I)I"⟩
abbrev cX9_letter : ByteArray := prog_11_method_25_code
def yX9_letter : MethodName := ⟨RX9, "letter", "(I)I"⟩
abbrev cX9_here : ByteArray := prog_11_method_26_code
def yX9_here : MethodName := ⟨RX9, "here", "()I"⟩
abbrev cX9_readsNumber : ByteArray := prog_11_method_27_code
def yX9_readsNumber : MethodName := ⟨RX9, "readsNumber", "(II)Z"⟩
abbrev cX9_kindBy : ByteArray := prog_11_method_28_code
def yX9_kindBy : MethodName := ⟨RX9, "kindBy", "(I)I"⟩
abbrev cX9_readsKind : ByteArray := prog_11_method_29_code
def yX9_readsKind : MethodName := ⟨RX9, "readsKind", "()Z"⟩
abbrev cX9_readsStatement : ByteArray := prog_11_method_30_code
def yX9_readsStatement : MethodName := ⟨RX9, "readsStatement", "()Z"⟩
abbrev cX9_canGive : ByteArray := prog_11_method_31_code
def yX9_canGive : MethodName := ⟨RX9, "canGive", "(III)Z"⟩
abbrev cX9_isDone : ByteArray := prog_11_method_32_code
def yX9_isDone : MethodName := ⟨RX9, "isDone", "(I)Z"⟩
abbrev cX9_works : ByteArray := prog_11_method_33_code
def yX9_works : MethodName := ⟨RX9, "works", "()I"⟩
abbrev cX9_worker : ByteArray := prog_11_method_34_code
def yX9_worker : MethodName := ⟨RX9, "worker", "(II)I"⟩
abbrev cX9_from : ByteArray := prog_11_method_35_code
def yX9_from : MethodName := ⟨RX9, "from", "(II)I"⟩
abbrev cX9_frees : ByteArray := prog_11_method_36_code
def yX9_frees : MethodName := ⟨RX9, "frees", "(II)I"⟩
abbrev cX9_gives : ByteArray := prog_11_method_37_code
def yX9_gives : MethodName := ⟨RX9, "gives", "(III)I"⟩
abbrev cX9_wrongBy : ByteArray := prog_11_method_38_code
def yX9_wrongBy : MethodName := ⟨RX9, "wrongBy", "(III)I"⟩
abbrev cX9_rests : ByteArray := prog_11_method_39_code
def yX9_rests : MethodName := ⟨RX9, "rests", "(II)I"⟩
abbrev cX9_turn : ByteArray := prog_11_method_40_code
def yX9_turn : MethodName := ⟨RX9, "turn", "(III)I"⟩
abbrev cX9_days : ByteArray := prog_11_method_41_code
def yX9_days : MethodName := ⟨RX9, "days", "(I)I"⟩
abbrev cX9_takes : ByteArray := prog_11_method_42_code
def yX9_takes : MethodName := ⟨RX9, "takes", "(I)V"⟩
abbrev cX9_workerThen : ByteArray := prog_11_method_43_code
def yX9_workerThen : MethodName := ⟨RX9, "workerThen", "(III)I"⟩
abbrev cX9_then : ByteArray := prog_11_method_44_code
def yX9_then : MethodName := ⟨RX9, "then", "(II)I"⟩
abbrev cX9_fallsOf : ByteArray := prog_11_method_45_code
def yX9_fallsOf : MethodName := ⟨RX9, "fallsOf", "(I)I"⟩
abbrev cX9_firstFalls : ByteArray := prog_11_method_46_code
def yX9_firstFalls : MethodName := ⟨RX9, "firstFalls", "()I"⟩
abbrev cX9_falls : ByteArray := prog_11_method_47_code
def yX9_falls : MethodName := ⟨RX9, "falls", "(I)I"⟩
abbrev cX9_isPaidDay : ByteArray := prog_11_method_48_code
def yX9_isPaidDay : MethodName := ⟨RX9, "isPaidDay", "()Z"⟩
abbrev cX9_sumOff : ByteArray := prog_11_method_49_code
def yX9_sumOff : MethodName := ⟨RX9, "sumOff", "([I)I"⟩
abbrev cX9_still : ByteArray := prog_11_method_50_code
def yX9_still : MethodName := ⟨RX9, "still", "()I"⟩
abbrev cX9_offOn : ByteArray := prog_11_method_51_code
def yX9_offOn : MethodName := ⟨RX9, "offOn", "(I)I"⟩
abbrev cX9_strike : ByteArray := prog_11_method_52_code
def yX9_strike : MethodName := ⟨RX9, "strike", "(I)I"⟩
abbrev cX9_bothIn : ByteArray := prog_11_method_53_code
def yX9_bothIn : MethodName := ⟨RX9, "bothIn", "(II)I"⟩
abbrev cX9_meet : ByteArray := prog_11_method_54_code
def yX9_meet : MethodName := ⟨RX9, "meet", "(II)I"⟩
abbrev cX9_never : ByteArray := prog_11_method_55_code
def yX9_never : MethodName := ⟨RX9, "never", "(I)I"⟩
abbrev cX9_rest : ByteArray := prog_11_method_56_code
def yX9_rest : MethodName := ⟨RX9, "rest", "(I)I"⟩
abbrev cX9_tiredNow : ByteArray := prog_11_method_57_code
def yX9_tiredNow : MethodName := ⟨RX9, "tiredNow", "(I)I"⟩
abbrev cX9_gift : ByteArray := prog_11_method_58_code
def yX9_gift : MethodName := ⟨RX9, "gift", "(III)I"⟩
abbrev cX9_trade : ByteArray := prog_11_method_59_code
def yX9_trade : MethodName := ⟨RX9, "trade", "(III)I"⟩
abbrev cX9_better : ByteArray := prog_11_method_60_code
def yX9_better : MethodName := ⟨RX9, "better", "(III)I"⟩
abbrev cX9_doesNobodyFall : ByteArray := prog_11_method_61_code
def yX9_doesNobodyFall : MethodName := ⟨RX9, "doesNobodyFall", "(I)Z"⟩
abbrev cX9_fewest : ByteArray := prog_11_method_62_code
def yX9_fewest : MethodName := ⟨RX9, "fewest", "(I)I"⟩
abbrev cX9_send : ByteArray := prog_11_method_63_code
def yX9_send : MethodName := ⟨RX9, "send", "(I)I"⟩
abbrev cX9_holiday : ByteArray := prog_11_method_64_code
def yX9_holiday : MethodName := ⟨RX9, "holiday", "(II)I"⟩
abbrev cX9_costBy : ByteArray := prog_11_method_65_code
def yX9_costBy : MethodName := ⟨RX9, "costBy", "(IIIIII)I"⟩
abbrev cX9_two : ByteArray := prog_11_method_66_code
def yX9_two : MethodName := ⟨RX9, "two", "(III)I"⟩
abbrev cX9_gcd : ByteArray := prog_11_method_67_code
def yX9_gcd : MethodName := ⟨RX9, "gcd", "(JJ)J"⟩
abbrev cX9_partOf : ByteArray := prog_11_method_68_code
def yX9_partOf : MethodName := ⟨RX9, "partOf", "(JJI)J"⟩
abbrev cX9_fever : ByteArray := prog_11_method_69_code
def yX9_fever : MethodName := ⟨RX9, "fever", "(IIIII)J"⟩
abbrev cX9_mean : ByteArray := prog_11_method_70_code
def yX9_mean : MethodName := ⟨RX9, "mean", "(I)J"⟩
abbrev cX9_whatIs : ByteArray := prog_11_method_71_code
def yX9_whatIs : MethodName := ⟨RX9, "whatIs", "(II)I"⟩
abbrev cX9_row : ByteArray := prog_11_method_72_code
def yX9_row : MethodName := ⟨RX9, "row", "(I)I"⟩
abbrev cX9_judge : ByteArray := prog_11_method_73_code
def yX9_judge : MethodName := ⟨RX9, "judge", "()I"⟩
abbrev cX9_clear : ByteArray := prog_11_method_74_code
def yX9_clear : MethodName := ⟨RX9, "clear", "()I"⟩
abbrev cX9_drawn : ByteArray := prog_11_method_75_code
def yX9_drawn : MethodName := ⟨RX9, "drawn", "(I)I"⟩
abbrev cX9_lots : ByteArray := prog_11_method_76_code
def yX9_lots : MethodName := ⟨RX9, "lots", "(III)I"⟩
abbrev cX9_image : ByteArray := prog_11_method_77_code
def yX9_image : MethodName := ⟨RX9, "image", "()I"⟩
abbrev cX9_on : ByteArray := prog_11_method_78_code
def yX9_on : MethodName := ⟨RX9, "on", "()I"⟩
abbrev cX9_count : ByteArray := prog_11_method_79_code
def yX9_count : MethodName := ⟨RX9, "count", "(I)I"⟩
def RJ11 : String := "java/lang/Character"
def TJ11 : u_T := fun k => match k with
  | _ => ("", "", "", false)
def tyJ11 : Nat → FieldType := fun k => match k with
  | _ => .int
abbrev wsJ110 : List Cond := u_ws RJ11 TJ11 0
theorem nmJ11 : ∀ a, a < 0 → ∀ b, b < 0 → a ≠ b → (TJ11 a).2.1 ≠ (TJ11 b).2.1 := by decide +kernel
theorem tyJ11_ok : ∀ k, k < 0 → parseFieldDescriptor (TJ11 k).2.2.1 = some (tyJ11 k) := by decide +kernel
abbrev cJ11_isValidCodePoint_9a6ad : ByteArray := prog_12_method_11_code
def yJ11_isValidCodePoint_9a6ad : MethodName := ⟨RJ11, "isValidCodePoint", "(I)Z"⟩
abbrev cJ11_highSurrogate_5068e : ByteArray := prog_12_method_28_code
def yJ11_highSurrogate_5068e : MethodName := ⟨RJ11, "highSurrogate", "(I)C"⟩
abbrev cJ11_lowSurrogate_5068e : ByteArray := prog_12_method_29_code
def yJ11_lowSurrogate_5068e : MethodName := ⟨RJ11, "lowSurrogate", "(I)C"⟩
def RJ6 : String := "java/lang/Integer"
def TJ6 : u_T := fun k => match k with
  | _ => ("", "", "", false)
def tyJ6 : Nat → FieldType := fun k => match k with
  | _ => .int
abbrev wsJ60 : List Cond := u_ws RJ6 TJ6 0
theorem nmJ6 : ∀ a, a < 0 → ∀ b, b < 0 → a ≠ b → (TJ6 a).2.1 ≠ (TJ6 b).2.1 := by decide +kernel
theorem tyJ6_ok : ∀ k, k < 0 → parseFieldDescriptor (TJ6 k).2.2.1 = some (tyJ6 k) := by decide +kernel
abbrev cJ6_numberOfLeadingZeros_0f7a4 : ByteArray := prog_13_method_47_code
def yJ6_numberOfLeadingZeros_0f7a4 : MethodName := ⟨RJ6, "numberOfLeadingZeros", "(I)I"⟩
abbrev cJ6_numberOfTrailingZeros_0f7a4 : ByteArray := prog_13_method_48_code
def yJ6_numberOfTrailingZeros_0f7a4 : MethodName := ⟨RJ6, "numberOfTrailingZeros", "(I)I"⟩
abbrev cJ6_bitCount_0f7a4 : ByteArray := prog_13_method_49_code
def yJ6_bitCount_0f7a4 : MethodName := ⟨RJ6, "bitCount", "(I)I"⟩
def RJ9 : String := "java/lang/Math"
def TJ9 : u_T := fun k => match k with
  | _ => ("", "", "", false)
def tyJ9 : Nat → FieldType := fun k => match k with
  | _ => .int
abbrev wsJ90 : List Cond := u_ws RJ9 TJ9 0
theorem nmJ9 : ∀ a, a < 0 → ∀ b, b < 0 → a ≠ b → (TJ9 a).2.1 ≠ (TJ9 b).2.1 := by decide +kernel
theorem tyJ9_ok : ∀ k, k < 0 → parseFieldDescriptor (TJ9 k).2.2.1 = some (tyJ9 k) := by decide +kernel
abbrev cJ9_max_7cf53 : ByteArray := prog_14_method_65_code
def yJ9_max_7cf53 : MethodName := ⟨RJ9, "max", "(II)I"⟩
abbrev cJ9_min_7cf53 : ByteArray := prog_14_method_69_code
def yJ9_min_7cf53 : MethodName := ⟨RJ9, "min", "(II)I"⟩
def RJ0 : String := "java/lang/String"
def TJ0 : u_T := fun k => match k with
  | _ => ("", "", "", false)
def tyJ0 : Nat → FieldType := fun k => match k with
  | _ => .int
abbrev wsJ00 : List Cond := u_ws RJ0 TJ0 0
theorem nmJ0 : ∀ a, a < 0 → ∀ b, b < 0 → a ≠ b → (TJ0 a).2.1 ≠ (TJ0 b).2.1 := by decide +kernel
theorem tyJ0_ok : ∀ k, k < 0 → parseFieldDescriptor (TJ0 k).2.2.1 = some (tyJ0 k) := by decide +kernel
abbrev cJ0_length_8abf5 : ByteArray := prog_15_method_54_code
def yJ0_length_8abf5 : MethodName := ⟨RJ0, "length", "()I"⟩
abbrev cJ0_isEmpty_aae02 : ByteArray := prog_15_method_55_code
def yJ0_isEmpty_aae02 : MethodName := ⟨RJ0, "isEmpty", "()Z"⟩
abbrev cJ0_charAt_5068e : ByteArray := prog_15_method_56_code
def yJ0_charAt_5068e : MethodName := ⟨RJ0, "charAt", "(I)C"⟩
abbrev cJ0_indexOf_0f7a4 : ByteArray := prog_15_method_79_code
def yJ0_indexOf_0f7a4 : MethodName := ⟨RJ0, "indexOf", "(I)I"⟩
abbrev cJ0_indexOf_7cf53 : ByteArray := prog_15_method_80_code
def yJ0_indexOf_7cf53 : MethodName := ⟨RJ0, "indexOf", "(II)I"⟩
abbrev cJ0_coder_7d493 : ByteArray := prog_15_method_152_code
def yJ0_coder_7d493 : MethodName := ⟨RJ0, "coder", "()B"⟩
abbrev cJ0_isLatin1_aae02 : ByteArray := prog_15_method_154_code
def yJ0_isLatin1_aae02 : MethodName := ⟨RJ0, "isLatin1", "()Z"⟩
abbrev cJ0_checkIndex_df160 : ByteArray := prog_15_method_155_code
def yJ0_checkIndex_df160 : MethodName := ⟨RJ0, "checkIndex", "(II)V"⟩
abbrev cJ0_checkBoundsBeginEnd_23922 : ByteArray := prog_15_method_158_code
def yJ0_checkBoundsBeginEnd_23922 : MethodName := ⟨RJ0, "checkBoundsBeginEnd", "(III)V"⟩
def RJ1 : String := "java/lang/StringLatin1"
def TJ1 : u_T := fun k => match k with
  | _ => ("", "", "", false)
def tyJ1 : Nat → FieldType := fun k => match k with
  | _ => .int
abbrev wsJ10 : List Cond := u_ws RJ1 TJ1 0
theorem nmJ1 : ∀ a, a < 0 → ∀ b, b < 0 → a ≠ b → (TJ1 a).2.1 ≠ (TJ1 b).2.1 := by decide +kernel
theorem tyJ1_ok : ∀ k, k < 0 → parseFieldDescriptor (TJ1 k).2.2.1 = some (tyJ1 k) := by decide +kernel
abbrev cJ1_charAt_3b067 : ByteArray := prog_16_method_2_code
def yJ1_charAt_3b067 : MethodName := ⟨RJ1, "charAt", "([BI)C"⟩
abbrev cJ1_canEncode_9a6ad : ByteArray := prog_16_method_4_code
def yJ1_canEncode_9a6ad : MethodName := ⟨RJ1, "canEncode", "(I)Z"⟩
abbrev cJ1_indexOf_4cfef : ByteArray := prog_16_method_22_code
def yJ1_indexOf_4cfef : MethodName := ⟨RJ1, "indexOf", "([BIII)I"⟩
abbrev cJ1_indexOfChar_4cfef : ByteArray := prog_16_method_23_code
def yJ1_indexOfChar_4cfef : MethodName := ⟨RJ1, "indexOfChar", "([BIII)I"⟩
def RJ2 : String := "java/lang/StringUTF16"
def TJ2 : u_T := fun k => match k with
  | _ => ("", "", "", false)
def tyJ2 : Nat → FieldType := fun k => match k with
  | _ => .int
abbrev wsJ20 : List Cond := u_ws RJ2 TJ2 0
theorem nmJ2 : ∀ a, a < 0 → ∀ b, b < 0 → a ≠ b → (TJ2 a).2.1 ≠ (TJ2 b).2.1 := by decide +kernel
theorem tyJ2_ok : ∀ k, k < 0 → parseFieldDescriptor (TJ2 k).2.2.1 = some (tyJ2 k) := by decide +kernel
abbrev cJ2_getChar_3b067 : ByteArray := prog_17_method_5_code
def yJ2_getChar_3b067 : MethodName := ⟨RJ2, "getChar", "([BI)C"⟩
abbrev cJ2_length_9d52b : ByteArray := prog_17_method_6_code
def yJ2_length_9d52b : MethodName := ⟨RJ2, "length", "([B)I"⟩
abbrev cJ2_indexOf_4cfef : ByteArray := prog_17_method_40_code
def yJ2_indexOf_4cfef : MethodName := ⟨RJ2, "indexOf", "([BIII)I"⟩
abbrev cJ2_indexOfChar_4cfef : ByteArray := prog_17_method_47_code
def yJ2_indexOfChar_4cfef : MethodName := ⟨RJ2, "indexOfChar", "([BIII)I"⟩
abbrev cJ2_indexOfCharUnsafe_4cfef : ByteArray := prog_17_method_48_code
def yJ2_indexOfCharUnsafe_4cfef : MethodName := ⟨RJ2, "indexOfCharUnsafe", "([BIII)I"⟩
abbrev cJ2_indexOfSupplementary_4cfef : ByteArray := prog_17_method_49_code
def yJ2_indexOfSupplementary_4cfef : MethodName := ⟨RJ2, "indexOfSupplementary", "([BIII)I"⟩
abbrev cJ2_charAt_3b067 : ByteArray := prog_17_method_83_code
def yJ2_charAt_3b067 : MethodName := ⟨RJ2, "charAt", "([BI)C"⟩
abbrev cJ2_checkIndex_2214a : ByteArray := prog_17_method_91_code
def yJ2_checkIndex_2214a : MethodName := ⟨RJ2, "checkIndex", "(I[B)V"⟩
abbrev cJ2_checkBoundsBeginEnd_d044e : ByteArray := prog_17_method_93_code
def yJ2_checkBoundsBeginEnd_d044e : MethodName := ⟨RJ2, "checkBoundsBeginEnd", "(II[B)V"⟩
def RJ10 : String := "java/lang/System"
def TJ10 : u_T := fun k => match k with
  | _ => ("", "", "", false)
def tyJ10 : Nat → FieldType := fun k => match k with
  | _ => .int
abbrev wsJ100 : List Cond := u_ws RJ10 TJ10 0
theorem nmJ10 : ∀ a, a < 0 → ∀ b, b < 0 → a ≠ b → (TJ10 a).2.1 ≠ (TJ10 b).2.1 := by decide +kernel
theorem tyJ10_ok : ∀ k, k < 0 → parseFieldDescriptor (TJ10 k).2.2.1 = some (tyJ10 k) := by decide +kernel
def RJ3 : String := "jdk/internal/util/Preconditions"
def TJ3 : u_T := fun k => match k with
  | _ => ("", "", "", false)
def tyJ3 : Nat → FieldType := fun k => match k with
  | _ => .int
abbrev wsJ30 : List Cond := u_ws RJ3 TJ3 0
theorem nmJ3 : ∀ a, a < 0 → ∀ b, b < 0 → a ≠ b → (TJ3 a).2.1 ≠ (TJ3 b).2.1 := by decide +kernel
theorem tyJ3_ok : ∀ k, k < 0 → parseFieldDescriptor (TJ3 k).2.2.1 = some (tyJ3 k) := by decide +kernel
abbrev cJ3_checkIndex_8e157 : ByteArray := prog_19_method_11_code
def yJ3_checkIndex_8e157 : MethodName := ⟨RJ3, "checkIndex", "(IILjava/util/function/BiFunction;)I"⟩
abbrev cJ3_checkFromToIndex_8c36e : ByteArray := prog_19_method_12_code
def yJ3_checkFromToIndex_8c36e : MethodName := ⟨RJ3, "checkFromToIndex", "(IIILjava/util/function/BiFunction;)I"⟩
def RL : String := "PaidInDaysLaw"
abbrev cL_law : ByteArray := code
def yL_law : MethodName := ⟨RL, "law", "([I)Z"⟩
abbrev vwCl : List vw_C := [(RX0, TX0, 0), (RX1, TX1, 9), (RX2, TX2, 0), (RX3, TX3, 0), (RX4, TX4, 0), (RX5, TX5, 2), (RX6, TX6, 0), (RX7, TX7, 0), (RX8, TX8, 8), (RX9, TX9, 13)]
end
section
theorem dX0_init_0 : decode cX0_init 0 = .ok (.aload_n 0, 1) := by decide +kernel
theorem dX0_init_1 : decode cX0_init 1 = .ok (.invokespecial 3, 3) := by decide +kernel
theorem dX0_init_4 : decode cX0_init 4 = .ok (.return_, 1) := by decide +kernel
theorem dX0_dueAfter_0 : decode cX0_dueAfter 0 = .ok (.aload_n 0, 1) := by decide +kernel
theorem dX0_dueAfter_1 : decode cX0_dueAfter 1 = .ok (.iload_n 1, 1) := by decide +kernel
theorem dX0_dueAfter_2 : decode cX0_dueAfter 2 = .ok (.invokespecial 9, 3) := by decide +kernel
theorem dX0_dueAfter_5 : decode cX0_dueAfter 5 = .ok (.iconst 1, 1) := by decide +kernel
theorem dX0_dueAfter_6 : decode cX0_dueAfter 6 = .ok (.iadd, 1) := by decide +kernel
theorem dX0_dueAfter_7 : decode cX0_dueAfter 7 = .ok (.ireturn, 1) := by decide +kernel
theorem dX0_choosePayer_0 : decode cX0_choosePayer 0 = .ok (.iconst 1, 1) := by decide +kernel
theorem dX0_choosePayer_1 : decode cX0_choosePayer 1 = .ok (.istore_n 3, 1) := by decide +kernel
theorem dX0_choosePayer_2 : decode cX0_choosePayer 2 = .ok (.iload_n 3, 1) := by decide +kernel
theorem dX0_choosePayer_3 : decode cX0_choosePayer 3 = .ok (.aload_n 1, 1) := by decide +kernel
theorem dX0_choosePayer_4 : decode cX0_choosePayer 4 = .ok (.getfield 13, 3) := by decide +kernel
theorem dX0_choosePayer_7 : decode cX0_choosePayer 7 = .ok (.if_icmp .ge 37, 3) := by decide +kernel
theorem dX0_choosePayer_10 : decode cX0_choosePayer 10 = .ok (.iload_n 2, 1) := by decide +kernel
theorem dX0_choosePayer_11 : decode cX0_choosePayer 11 = .ok (.iload_n 3, 1) := by decide +kernel
theorem dX0_choosePayer_12 : decode cX0_choosePayer 12 = .ok (.isub, 1) := by decide +kernel
theorem dX0_choosePayer_13 : decode cX0_choosePayer 13 = .ok (.aload_n 1, 1) := by decide +kernel
theorem dX0_choosePayer_14 : decode cX0_choosePayer 14 = .ok (.getfield 13, 3) := by decide +kernel
theorem dX0_choosePayer_17 : decode cX0_choosePayer 17 = .ok (.iadd, 1) := by decide +kernel
theorem dX0_choosePayer_18 : decode cX0_choosePayer 18 = .ok (.aload_n 1, 1) := by decide +kernel
theorem dX0_choosePayer_19 : decode cX0_choosePayer 19 = .ok (.getfield 13, 3) := by decide +kernel
theorem dX0_choosePayer_22 : decode cX0_choosePayer 22 = .ok (.irem, 1) := by decide +kernel
theorem dX0_choosePayer_23 : decode cX0_choosePayer 23 = .ok (.istore 4, 2) := by decide +kernel
theorem dX0_choosePayer_25 : decode cX0_choosePayer 25 = .ok (.aload_n 1, 1) := by decide +kernel
theorem dX0_choosePayer_26 : decode cX0_choosePayer 26 = .ok (.iload 4, 2) := by decide +kernel
theorem dX0_choosePayer_28 : decode cX0_choosePayer 28 = .ok (.iload_n 2, 1) := by decide +kernel
theorem dX0_choosePayer_29 : decode cX0_choosePayer 29 = .ok (.invokevirtual 19, 3) := by decide +kernel
theorem dX0_choosePayer_32 : decode cX0_choosePayer 32 = .ok (.ifCond .eq 6, 3) := by decide +kernel
theorem dX0_choosePayer_35 : decode cX0_choosePayer 35 = .ok (.iload 4, 2) := by decide +kernel
theorem dX0_choosePayer_37 : decode cX0_choosePayer 37 = .ok (.ireturn, 1) := by decide +kernel
theorem dX0_choosePayer_38 : decode cX0_choosePayer 38 = .ok (.iinc 3 1, 3) := by decide +kernel
theorem dX0_choosePayer_41 : decode cX0_choosePayer 41 = .ok (.goto (-39), 3) := by decide +kernel
theorem dX0_choosePayer_44 : decode cX0_choosePayer 44 = .ok (.bipush (-9), 2) := by decide +kernel
theorem dX0_choosePayer_46 : decode cX0_choosePayer 46 = .ok (.ireturn, 1) := by decide +kernel
theorem dX1_init_0 : decode cX1_init 0 = .ok (.aload_n 0, 1) := by decide +kernel
theorem dX1_init_1 : decode cX1_init 1 = .ok (.invokespecial 3, 3) := by decide +kernel
theorem dX1_init_4 : decode cX1_init 4 = .ok (.aload_n 0, 1) := by decide +kernel
theorem dX1_init_5 : decode cX1_init 5 = .ok (.bipush 6, 2) := by decide +kernel
theorem dX1_init_7 : decode cX1_init 7 = .ok (.anewarray 9, 3) := by decide +kernel
theorem dX1_init_10 : decode cX1_init 10 = .ok (.dup, 1) := by decide +kernel
theorem dX1_init_11 : decode cX1_init 11 = .ok (.iconst 0, 1) := by decide +kernel
theorem dX1_init_12 : decode cX1_init 12 = .ok (.new 9, 3) := by decide +kernel
theorem dX1_init_15 : decode cX1_init 15 = .ok (.dup, 1) := by decide +kernel
theorem dX1_init_16 : decode cX1_init 16 = .ok (.invokespecial 11, 3) := by decide +kernel
theorem dX1_init_19 : decode cX1_init 19 = .ok (.aastore, 1) := by decide +kernel
theorem dX1_init_20 : decode cX1_init 20 = .ok (.dup, 1) := by decide +kernel
theorem dX1_init_21 : decode cX1_init 21 = .ok (.iconst 1, 1) := by decide +kernel
theorem dX1_init_22 : decode cX1_init 22 = .ok (.new 12, 3) := by decide +kernel
theorem dX1_init_25 : decode cX1_init 25 = .ok (.dup, 1) := by decide +kernel
theorem dX1_init_26 : decode cX1_init 26 = .ok (.invokespecial 14, 3) := by decide +kernel
theorem dX1_init_29 : decode cX1_init 29 = .ok (.aastore, 1) := by decide +kernel
theorem dX1_init_30 : decode cX1_init 30 = .ok (.dup, 1) := by decide +kernel
theorem dX1_init_31 : decode cX1_init 31 = .ok (.iconst 2, 1) := by decide +kernel
theorem dX1_init_32 : decode cX1_init 32 = .ok (.new 15, 3) := by decide +kernel
theorem dX1_init_35 : decode cX1_init 35 = .ok (.dup, 1) := by decide +kernel
theorem dX1_init_36 : decode cX1_init 36 = .ok (.invokespecial 17, 3) := by decide +kernel
theorem dX1_init_39 : decode cX1_init 39 = .ok (.aastore, 1) := by decide +kernel
theorem dX1_init_40 : decode cX1_init 40 = .ok (.dup, 1) := by decide +kernel
theorem dX1_init_41 : decode cX1_init 41 = .ok (.iconst 3, 1) := by decide +kernel
theorem dX1_init_42 : decode cX1_init 42 = .ok (.new 18, 3) := by decide +kernel
theorem dX1_init_45 : decode cX1_init 45 = .ok (.dup, 1) := by decide +kernel
theorem dX1_init_46 : decode cX1_init 46 = .ok (.invokespecial 20, 3) := by decide +kernel
theorem dX1_init_49 : decode cX1_init 49 = .ok (.aastore, 1) := by decide +kernel
theorem dX1_init_50 : decode cX1_init 50 = .ok (.dup, 1) := by decide +kernel
theorem dX1_init_51 : decode cX1_init 51 = .ok (.iconst 4, 1) := by decide +kernel
theorem dX1_init_52 : decode cX1_init 52 = .ok (.new 21, 3) := by decide +kernel
theorem dX1_init_55 : decode cX1_init 55 = .ok (.dup, 1) := by decide +kernel
theorem dX1_init_56 : decode cX1_init 56 = .ok (.invokespecial 23, 3) := by decide +kernel
theorem dX1_init_59 : decode cX1_init 59 = .ok (.aastore, 1) := by decide +kernel
theorem dX1_init_60 : decode cX1_init 60 = .ok (.dup, 1) := by decide +kernel
theorem dX1_init_61 : decode cX1_init 61 = .ok (.iconst 5, 1) := by decide +kernel
theorem dX1_init_62 : decode cX1_init 62 = .ok (.new 24, 3) := by decide +kernel
theorem dX1_init_65 : decode cX1_init 65 = .ok (.dup, 1) := by decide +kernel
theorem dX1_init_66 : decode cX1_init 66 = .ok (.invokespecial 26, 3) := by decide +kernel
theorem dX1_init_69 : decode cX1_init 69 = .ok (.aastore, 1) := by decide +kernel
theorem dX1_init_70 : decode cX1_init 70 = .ok (.putfield 27, 3) := by decide +kernel
theorem dX1_init_73 : decode cX1_init 73 = .ok (.aload_n 0, 1) := by decide +kernel
theorem dX1_init_74 : decode cX1_init 74 = .ok (.bipush 6, 2) := by decide +kernel
theorem dX1_init_76 : decode cX1_init 76 = .ok (.newarray .int, 2) := by decide +kernel
theorem dX1_init_78 : decode cX1_init 78 = .ok (.putfield 33, 3) := by decide +kernel
theorem dX1_init_81 : decode cX1_init 81 = .ok (.aload_n 0, 1) := by decide +kernel
theorem dX1_init_82 : decode cX1_init 82 = .ok (.bipush 6, 2) := by decide +kernel
theorem dX1_init_84 : decode cX1_init 84 = .ok (.newarray .int, 2) := by decide +kernel
theorem dX1_init_86 : decode cX1_init 86 = .ok (.putfield 37, 3) := by decide +kernel
theorem dX1_init_89 : decode cX1_init 89 = .ok (.aload_n 0, 1) := by decide +kernel
theorem dX1_init_90 : decode cX1_init 90 = .ok (.bipush 6, 2) := by decide +kernel
theorem dX1_init_92 : decode cX1_init 92 = .ok (.newarray .int, 2) := by decide +kernel
theorem dX1_init_94 : decode cX1_init 94 = .ok (.putfield 40, 3) := by decide +kernel
theorem dX1_init_97 : decode cX1_init 97 = .ok (.aload_n 0, 1) := by decide +kernel
theorem dX1_init_98 : decode cX1_init 98 = .ok (.bipush 6, 2) := by decide +kernel
theorem dX1_init_100 : decode cX1_init 100 = .ok (.newarray .int, 2) := by decide +kernel
theorem dX1_init_102 : decode cX1_init 102 = .ok (.putfield 43, 3) := by decide +kernel
theorem dX1_init_105 : decode cX1_init 105 = .ok (.aload_n 0, 1) := by decide +kernel
theorem dX1_init_106 : decode cX1_init 106 = .ok (.bipush 6, 2) := by decide +kernel
theorem dX1_init_108 : decode cX1_init 108 = .ok (.newarray .int, 2) := by decide +kernel
theorem dX1_init_110 : decode cX1_init 110 = .ok (.putfield 46, 3) := by decide +kernel
theorem dX1_init_113 : decode cX1_init 113 = .ok (.aload_n 0, 1) := by decide +kernel
theorem dX1_init_114 : decode cX1_init 114 = .ok (.iconst 0, 1) := by decide +kernel
theorem dX1_init_115 : decode cX1_init 115 = .ok (.putfield 49, 3) := by decide +kernel
theorem dX1_init_118 : decode cX1_init 118 = .ok (.aload_n 0, 1) := by decide +kernel
theorem dX1_init_119 : decode cX1_init 119 = .ok (.iconst 0, 1) := by decide +kernel
theorem dX1_init_120 : decode cX1_init 120 = .ok (.putfield 53, 3) := by decide +kernel
theorem dX1_init_123 : decode cX1_init 123 = .ok (.aload_n 0, 1) := by decide +kernel
theorem dX1_init_124 : decode cX1_init 124 = .ok (.iconst 0, 1) := by decide +kernel
theorem dX1_init_125 : decode cX1_init 125 = .ok (.putfield 56, 3) := by decide +kernel
theorem dX1_init_128 : decode cX1_init 128 = .ok (.return_, 1) := by decide +kernel
theorem dX1_become_0 : decode cX1_become 0 = .ok (.aload_n 1, 1) := by decide +kernel
theorem dX1_become_1 : decode cX1_become 1 = .ok (.getfield 33, 3) := by decide +kernel
theorem dX1_become_4 : decode cX1_become 4 = .ok (.iconst 0, 1) := by decide +kernel
theorem dX1_become_5 : decode cX1_become 5 = .ok (.aload_n 0, 1) := by decide +kernel
theorem dX1_become_6 : decode cX1_become 6 = .ok (.getfield 33, 3) := by decide +kernel
theorem dX1_become_9 : decode cX1_become 9 = .ok (.iconst 0, 1) := by decide +kernel
theorem dX1_become_10 : decode cX1_become 10 = .ok (.bipush 6, 2) := by decide +kernel
theorem dX1_become_12 : decode cX1_become 12 = .ok (.invokestatic 59, 3) := by decide +kernel
theorem dX1_become_15 : decode cX1_become 15 = .ok (.aload_n 1, 1) := by decide +kernel
theorem dX1_become_16 : decode cX1_become 16 = .ok (.getfield 37, 3) := by decide +kernel
theorem dX1_become_19 : decode cX1_become 19 = .ok (.iconst 0, 1) := by decide +kernel
theorem dX1_become_20 : decode cX1_become 20 = .ok (.aload_n 0, 1) := by decide +kernel
theorem dX1_become_21 : decode cX1_become 21 = .ok (.getfield 37, 3) := by decide +kernel
theorem dX1_become_24 : decode cX1_become 24 = .ok (.iconst 0, 1) := by decide +kernel
theorem dX1_become_25 : decode cX1_become 25 = .ok (.bipush 6, 2) := by decide +kernel
theorem dX1_become_27 : decode cX1_become 27 = .ok (.invokestatic 59, 3) := by decide +kernel
theorem dX1_become_30 : decode cX1_become 30 = .ok (.aload_n 1, 1) := by decide +kernel
theorem dX1_become_31 : decode cX1_become 31 = .ok (.getfield 40, 3) := by decide +kernel
theorem dX1_become_34 : decode cX1_become 34 = .ok (.iconst 0, 1) := by decide +kernel
theorem dX1_become_35 : decode cX1_become 35 = .ok (.aload_n 0, 1) := by decide +kernel
theorem dX1_become_36 : decode cX1_become 36 = .ok (.getfield 40, 3) := by decide +kernel
theorem dX1_become_39 : decode cX1_become 39 = .ok (.iconst 0, 1) := by decide +kernel
theorem dX1_become_40 : decode cX1_become 40 = .ok (.bipush 6, 2) := by decide +kernel
theorem dX1_become_42 : decode cX1_become 42 = .ok (.invokestatic 59, 3) := by decide +kernel
theorem dX1_become_45 : decode cX1_become 45 = .ok (.aload_n 1, 1) := by decide +kernel
theorem dX1_become_46 : decode cX1_become 46 = .ok (.getfield 43, 3) := by decide +kernel
theorem dX1_become_49 : decode cX1_become 49 = .ok (.iconst 0, 1) := by decide +kernel
theorem dX1_become_50 : decode cX1_become 50 = .ok (.aload_n 0, 1) := by decide +kernel
theorem dX1_become_51 : decode cX1_become 51 = .ok (.getfield 43, 3) := by decide +kernel
theorem dX1_become_54 : decode cX1_become 54 = .ok (.iconst 0, 1) := by decide +kernel
theorem dX1_become_55 : decode cX1_become 55 = .ok (.bipush 6, 2) := by decide +kernel
theorem dX1_become_57 : decode cX1_become 57 = .ok (.invokestatic 59, 3) := by decide +kernel
theorem dX1_become_60 : decode cX1_become 60 = .ok (.aload_n 1, 1) := by decide +kernel
theorem dX1_become_61 : decode cX1_become 61 = .ok (.getfield 46, 3) := by decide +kernel
theorem dX1_become_64 : decode cX1_become 64 = .ok (.iconst 0, 1) := by decide +kernel
theorem dX1_become_65 : decode cX1_become 65 = .ok (.aload_n 0, 1) := by decide +kernel
theorem dX1_become_66 : decode cX1_become 66 = .ok (.getfield 46, 3) := by decide +kernel
theorem dX1_become_69 : decode cX1_become 69 = .ok (.iconst 0, 1) := by decide +kernel
theorem dX1_become_70 : decode cX1_become 70 = .ok (.bipush 6, 2) := by decide +kernel
theorem dX1_become_72 : decode cX1_become 72 = .ok (.invokestatic 59, 3) := by decide +kernel
theorem dX1_become_75 : decode cX1_become 75 = .ok (.aload_n 0, 1) := by decide +kernel
theorem dX1_become_76 : decode cX1_become 76 = .ok (.aload_n 1, 1) := by decide +kernel
theorem dX1_become_77 : decode cX1_become 77 = .ok (.getfield 49, 3) := by decide +kernel
theorem dX1_become_80 : decode cX1_become 80 = .ok (.putfield 49, 3) := by decide +kernel
theorem dX1_become_83 : decode cX1_become 83 = .ok (.aload_n 0, 1) := by decide +kernel
theorem dX1_become_84 : decode cX1_become 84 = .ok (.aload_n 1, 1) := by decide +kernel
theorem dX1_become_85 : decode cX1_become 85 = .ok (.getfield 53, 3) := by decide +kernel
theorem dX1_become_88 : decode cX1_become 88 = .ok (.putfield 53, 3) := by decide +kernel
theorem dX1_become_91 : decode cX1_become 91 = .ok (.aload_n 0, 1) := by decide +kernel
theorem dX1_become_92 : decode cX1_become 92 = .ok (.aload_n 1, 1) := by decide +kernel
theorem dX1_become_93 : decode cX1_become 93 = .ok (.getfield 56, 3) := by decide +kernel
theorem dX1_become_96 : decode cX1_become 96 = .ok (.putfield 56, 3) := by decide +kernel
theorem dX1_become_99 : decode cX1_become 99 = .ok (.return_, 1) := by decide +kernel
theorem dX1_hasRoom_0 : decode cX1_hasRoom 0 = .ok (.aload_n 0, 1) := by decide +kernel
theorem dX1_hasRoom_1 : decode cX1_hasRoom 1 = .ok (.getfield 49, 3) := by decide +kernel
theorem dX1_hasRoom_4 : decode cX1_hasRoom 4 = .ok (.bipush 6, 2) := by decide +kernel
theorem dX1_hasRoom_6 : decode cX1_hasRoom 6 = .ok (.if_icmp .ge 7, 3) := by decide +kernel
theorem dX1_hasRoom_9 : decode cX1_hasRoom 9 = .ok (.iconst 1, 1) := by decide +kernel
theorem dX1_hasRoom_10 : decode cX1_hasRoom 10 = .ok (.goto 4, 3) := by decide +kernel
theorem dX1_hasRoom_13 : decode cX1_hasRoom 13 = .ok (.iconst 0, 1) := by decide +kernel
theorem dX1_hasRoom_14 : decode cX1_hasRoom 14 = .ok (.ireturn, 1) := by decide +kernel
theorem dX1_hire_0 : decode cX1_hire 0 = .ok (.aload_n 0, 1) := by decide +kernel
theorem dX1_hire_1 : decode cX1_hire 1 = .ok (.invokevirtual 65, 3) := by decide +kernel
theorem dX1_hire_4 : decode cX1_hire 4 = .ok (.ifCond .eq 63, 3) := by decide +kernel
theorem dX1_hire_7 : decode cX1_hire 7 = .ok (.aload_n 0, 1) := by decide +kernel
theorem dX1_hire_8 : decode cX1_hire 8 = .ok (.getfield 33, 3) := by decide +kernel
theorem dX1_hire_11 : decode cX1_hire 11 = .ok (.aload_n 0, 1) := by decide +kernel
theorem dX1_hire_12 : decode cX1_hire 12 = .ok (.getfield 49, 3) := by decide +kernel
theorem dX1_hire_15 : decode cX1_hire 15 = .ok (.iload_n 1, 1) := by decide +kernel
theorem dX1_hire_16 : decode cX1_hire 16 = .ok (.iastore, 1) := by decide +kernel
theorem dX1_hire_17 : decode cX1_hire 17 = .ok (.aload_n 0, 1) := by decide +kernel
theorem dX1_hire_18 : decode cX1_hire 18 = .ok (.getfield 37, 3) := by decide +kernel
theorem dX1_hire_21 : decode cX1_hire 21 = .ok (.aload_n 0, 1) := by decide +kernel
theorem dX1_hire_22 : decode cX1_hire 22 = .ok (.getfield 49, 3) := by decide +kernel
theorem dX1_hire_25 : decode cX1_hire 25 = .ok (.iload_n 2, 1) := by decide +kernel
theorem dX1_hire_26 : decode cX1_hire 26 = .ok (.iastore, 1) := by decide +kernel
theorem dX1_hire_27 : decode cX1_hire 27 = .ok (.aload_n 0, 1) := by decide +kernel
theorem dX1_hire_28 : decode cX1_hire 28 = .ok (.getfield 40, 3) := by decide +kernel
theorem dX1_hire_31 : decode cX1_hire 31 = .ok (.aload_n 0, 1) := by decide +kernel
theorem dX1_hire_32 : decode cX1_hire 32 = .ok (.getfield 49, 3) := by decide +kernel
theorem dX1_hire_35 : decode cX1_hire 35 = .ok (.iload_n 3, 1) := by decide +kernel
theorem dX1_hire_36 : decode cX1_hire 36 = .ok (.iastore, 1) := by decide +kernel
theorem dX1_hire_37 : decode cX1_hire 37 = .ok (.aload_n 0, 1) := by decide +kernel
theorem dX1_hire_38 : decode cX1_hire 38 = .ok (.getfield 43, 3) := by decide +kernel
theorem dX1_hire_41 : decode cX1_hire 41 = .ok (.aload_n 0, 1) := by decide +kernel
theorem dX1_hire_42 : decode cX1_hire 42 = .ok (.getfield 49, 3) := by decide +kernel
theorem dX1_hire_45 : decode cX1_hire 45 = .ok (.iconst 0, 1) := by decide +kernel
theorem dX1_hire_46 : decode cX1_hire 46 = .ok (.iastore, 1) := by decide +kernel
theorem dX1_hire_47 : decode cX1_hire 47 = .ok (.aload_n 0, 1) := by decide +kernel
theorem dX1_hire_48 : decode cX1_hire 48 = .ok (.getfield 46, 3) := by decide +kernel
theorem dX1_hire_51 : decode cX1_hire 51 = .ok (.aload_n 0, 1) := by decide +kernel
theorem dX1_hire_52 : decode cX1_hire 52 = .ok (.getfield 49, 3) := by decide +kernel
theorem dX1_hire_55 : decode cX1_hire 55 = .ok (.iconst 0, 1) := by decide +kernel
theorem dX1_hire_56 : decode cX1_hire 56 = .ok (.iastore, 1) := by decide +kernel
theorem dX1_hire_57 : decode cX1_hire 57 = .ok (.aload_n 0, 1) := by decide +kernel
theorem dX1_hire_58 : decode cX1_hire 58 = .ok (.dup, 1) := by decide +kernel
theorem dX1_hire_59 : decode cX1_hire 59 = .ok (.getfield 49, 3) := by decide +kernel
theorem dX1_hire_62 : decode cX1_hire 62 = .ok (.iconst 1, 1) := by decide +kernel
theorem dX1_hire_63 : decode cX1_hire 63 = .ok (.iadd, 1) := by decide +kernel
theorem dX1_hire_64 : decode cX1_hire 64 = .ok (.putfield 49, 3) := by decide +kernel
theorem dX1_hire_67 : decode cX1_hire 67 = .ok (.return_, 1) := by decide +kernel
theorem dX1_has_0 : decode cX1_has 0 = .ok (.iload_n 1, 1) := by decide +kernel
theorem dX1_has_1 : decode cX1_has 1 = .ok (.ifCond .lt 15, 3) := by decide +kernel
theorem dX1_has_4 : decode cX1_has 4 = .ok (.iload_n 1, 1) := by decide +kernel
theorem dX1_has_5 : decode cX1_has 5 = .ok (.aload_n 0, 1) := by decide +kernel
theorem dX1_has_6 : decode cX1_has 6 = .ok (.getfield 49, 3) := by decide +kernel
theorem dX1_has_9 : decode cX1_has 9 = .ok (.if_icmp .ge 7, 3) := by decide +kernel
theorem dX1_has_12 : decode cX1_has 12 = .ok (.iconst 1, 1) := by decide +kernel
theorem dX1_has_13 : decode cX1_has 13 = .ok (.goto 4, 3) := by decide +kernel
theorem dX1_has_16 : decode cX1_has 16 = .ok (.iconst 0, 1) := by decide +kernel
theorem dX1_has_17 : decode cX1_has 17 = .ok (.ireturn, 1) := by decide +kernel
theorem dX1_weekday_0 : decode cX1_weekday 0 = .ok (.aload_n 0, 1) := by decide +kernel
theorem dX1_weekday_1 : decode cX1_weekday 1 = .ok (.getfield 56, 3) := by decide +kernel
theorem dX1_weekday_4 : decode cX1_weekday 4 = .ok (.bipush 7, 2) := by decide +kernel
theorem dX1_weekday_6 : decode cX1_weekday 6 = .ok (.irem, 1) := by decide +kernel
theorem dX1_weekday_7 : decode cX1_weekday 7 = .ok (.ireturn, 1) := by decide +kernel
theorem dX1_isOff_0 : decode cX1_isOff 0 = .ok (.aload_n 0, 1) := by decide +kernel
theorem dX1_isOff_1 : decode cX1_isOff 1 = .ok (.getfield 40, 3) := by decide +kernel
theorem dX1_isOff_4 : decode cX1_isOff 4 = .ok (.iload_n 1, 1) := by decide +kernel
theorem dX1_isOff_5 : decode cX1_isOff 5 = .ok (.iaload, 1) := by decide +kernel
theorem dX1_isOff_6 : decode cX1_isOff 6 = .ok (.iload_n 2, 1) := by decide +kernel
theorem dX1_isOff_7 : decode cX1_isOff 7 = .ok (.invokestatic 69, 3) := by decide +kernel
theorem dX1_isOff_10 : decode cX1_isOff 10 = .ok (.ireturn, 1) := by decide +kernel
theorem dX1_change_0 : decode cX1_change 0 = .ok (.aload_n 0, 1) := by decide +kernel
theorem dX1_change_1 : decode cX1_change 1 = .ok (.getfield 40, 3) := by decide +kernel
theorem dX1_change_4 : decode cX1_change 4 = .ok (.iload_n 1, 1) := by decide +kernel
theorem dX1_change_5 : decode cX1_change 5 = .ok (.dup2, 1) := by decide +kernel
theorem dX1_change_6 : decode cX1_change 6 = .ok (.iaload, 1) := by decide +kernel
theorem dX1_change_7 : decode cX1_change 7 = .ok (.iconst 1, 1) := by decide +kernel
theorem dX1_change_8 : decode cX1_change 8 = .ok (.iload_n 2, 1) := by decide +kernel
theorem dX1_change_9 : decode cX1_change 9 = .ok (.ishl, 1) := by decide +kernel
theorem dX1_change_10 : decode cX1_change 10 = .ok (.ixor, 1) := by decide +kernel
theorem dX1_change_11 : decode cX1_change 11 = .ok (.iastore, 1) := by decide +kernel
theorem dX1_change_12 : decode cX1_change 12 = .ok (.return_, 1) := by decide +kernel
theorem dX1_canHand_0 : decode cX1_canHand 0 = .ok (.aload_n 0, 1) := by decide +kernel
theorem dX1_canHand_1 : decode cX1_canHand 1 = .ok (.iload_n 1, 1) := by decide +kernel
theorem dX1_canHand_2 : decode cX1_canHand 2 = .ok (.iload_n 3, 1) := by decide +kernel
theorem dX1_canHand_3 : decode cX1_canHand 3 = .ok (.invokevirtual 73, 3) := by decide +kernel
theorem dX1_canHand_6 : decode cX1_canHand 6 = .ok (.ifCond .eq 16, 3) := by decide +kernel
theorem dX1_canHand_9 : decode cX1_canHand 9 = .ok (.aload_n 0, 1) := by decide +kernel
theorem dX1_canHand_10 : decode cX1_canHand 10 = .ok (.iload_n 2, 1) := by decide +kernel
theorem dX1_canHand_11 : decode cX1_canHand 11 = .ok (.iload_n 3, 1) := by decide +kernel
theorem dX1_canHand_12 : decode cX1_canHand 12 = .ok (.invokevirtual 73, 3) := by decide +kernel
theorem dX1_canHand_15 : decode cX1_canHand 15 = .ok (.ifCond .ne 7, 3) := by decide +kernel
theorem dX1_canHand_18 : decode cX1_canHand 18 = .ok (.iconst 1, 1) := by decide +kernel
theorem dX1_canHand_19 : decode cX1_canHand 19 = .ok (.goto 4, 3) := by decide +kernel
theorem dX1_canHand_22 : decode cX1_canHand 22 = .ok (.iconst 0, 1) := by decide +kernel
theorem dX1_canHand_23 : decode cX1_canHand 23 = .ok (.ireturn, 1) := by decide +kernel
theorem dX1_hand_0 : decode cX1_hand 0 = .ok (.aload_n 0, 1) := by decide +kernel
theorem dX1_hand_1 : decode cX1_hand 1 = .ok (.iload_n 1, 1) := by decide +kernel
theorem dX1_hand_2 : decode cX1_hand 2 = .ok (.iload_n 3, 1) := by decide +kernel
theorem dX1_hand_3 : decode cX1_hand 3 = .ok (.invokevirtual 76, 3) := by decide +kernel
theorem dX1_hand_6 : decode cX1_hand 6 = .ok (.aload_n 0, 1) := by decide +kernel
theorem dX1_hand_7 : decode cX1_hand 7 = .ok (.iload_n 2, 1) := by decide +kernel
theorem dX1_hand_8 : decode cX1_hand 8 = .ok (.iload_n 3, 1) := by decide +kernel
theorem dX1_hand_9 : decode cX1_hand 9 = .ok (.invokevirtual 76, 3) := by decide +kernel
theorem dX1_hand_12 : decode cX1_hand 12 = .ok (.return_, 1) := by decide +kernel
theorem dX1_addOff_0 : decode cX1_addOff 0 = .ok (.iconst 0, 1) := by decide +kernel
theorem dX1_addOff_1 : decode cX1_addOff 1 = .ok (.istore_n 3, 1) := by decide +kernel
theorem dX1_addOff_2 : decode cX1_addOff 2 = .ok (.iload_n 3, 1) := by decide +kernel
theorem dX1_addOff_3 : decode cX1_addOff 3 = .ok (.aload_n 0, 1) := by decide +kernel
theorem dX1_addOff_4 : decode cX1_addOff 4 = .ok (.getfield 49, 3) := by decide +kernel
theorem dX1_addOff_7 : decode cX1_addOff 7 = .ok (.if_icmp .ge 27, 3) := by decide +kernel
theorem dX1_addOff_10 : decode cX1_addOff 10 = .ok (.iload_n 1, 1) := by decide +kernel
theorem dX1_addOff_11 : decode cX1_addOff 11 = .ok (.iload_n 3, 1) := by decide +kernel
theorem dX1_addOff_12 : decode cX1_addOff 12 = .ok (.invokestatic 69, 3) := by decide +kernel
theorem dX1_addOff_15 : decode cX1_addOff 15 = .ok (.ifCond .eq 13, 3) := by decide +kernel
theorem dX1_addOff_18 : decode cX1_addOff 18 = .ok (.aload_n 0, 1) := by decide +kernel
theorem dX1_addOff_19 : decode cX1_addOff 19 = .ok (.getfield 40, 3) := by decide +kernel
theorem dX1_addOff_22 : decode cX1_addOff 22 = .ok (.iload_n 3, 1) := by decide +kernel
theorem dX1_addOff_23 : decode cX1_addOff 23 = .ok (.dup2, 1) := by decide +kernel
theorem dX1_addOff_24 : decode cX1_addOff 24 = .ok (.iaload, 1) := by decide +kernel
theorem dX1_addOff_25 : decode cX1_addOff 25 = .ok (.iload_n 2, 1) := by decide +kernel
theorem dX1_addOff_26 : decode cX1_addOff 26 = .ok (.ior, 1) := by decide +kernel
theorem dX1_addOff_27 : decode cX1_addOff 27 = .ok (.iastore, 1) := by decide +kernel
theorem dX1_addOff_28 : decode cX1_addOff 28 = .ok (.iinc 3 1, 3) := by decide +kernel
theorem dX1_addOff_31 : decode cX1_addOff 31 = .ok (.goto (-29), 3) := by decide +kernel
theorem dX1_addOff_34 : decode cX1_addOff 34 = .ok (.return_, 1) := by decide +kernel
theorem dX1_passDays_0 : decode cX1_passDays 0 = .ok (.iconst 0, 1) := by decide +kernel
theorem dX1_passDays_1 : decode cX1_passDays 1 = .ok (.istore_n 3, 1) := by decide +kernel
theorem dX1_passDays_2 : decode cX1_passDays 2 = .ok (.iconst 0, 1) := by decide +kernel
theorem dX1_passDays_3 : decode cX1_passDays 3 = .ok (.istore 4, 2) := by decide +kernel
theorem dX1_passDays_5 : decode cX1_passDays 5 = .ok (.iload 4, 2) := by decide +kernel
theorem dX1_passDays_7 : decode cX1_passDays 7 = .ok (.iload_n 1, 1) := by decide +kernel
theorem dX1_passDays_8 : decode cX1_passDays 8 = .ok (.if_icmp .ge 102, 3) := by decide +kernel
theorem dX1_passDays_11 : decode cX1_passDays 11 = .ok (.aload_n 0, 1) := by decide +kernel
theorem dX1_passDays_12 : decode cX1_passDays 12 = .ok (.dup, 1) := by decide +kernel
theorem dX1_passDays_13 : decode cX1_passDays 13 = .ok (.getfield 56, 3) := by decide +kernel
theorem dX1_passDays_16 : decode cX1_passDays 16 = .ok (.iconst 1, 1) := by decide +kernel
theorem dX1_passDays_17 : decode cX1_passDays 17 = .ok (.iadd, 1) := by decide +kernel
theorem dX1_passDays_18 : decode cX1_passDays 18 = .ok (.putfield 56, 3) := by decide +kernel
theorem dX1_passDays_21 : decode cX1_passDays 21 = .ok (.iconst 0, 1) := by decide +kernel
theorem dX1_passDays_22 : decode cX1_passDays 22 = .ok (.istore 5, 2) := by decide +kernel
theorem dX1_passDays_24 : decode cX1_passDays 24 = .ok (.iload 5, 2) := by decide +kernel
theorem dX1_passDays_26 : decode cX1_passDays 26 = .ok (.aload_n 0, 1) := by decide +kernel
theorem dX1_passDays_27 : decode cX1_passDays 27 = .ok (.getfield 49, 3) := by decide +kernel
theorem dX1_passDays_30 : decode cX1_passDays 30 = .ok (.if_icmp .ge 74, 3) := by decide +kernel
theorem dX1_passDays_33 : decode cX1_passDays 33 = .ok (.aload_n 0, 1) := by decide +kernel
theorem dX1_passDays_34 : decode cX1_passDays 34 = .ok (.iload 5, 2) := by decide +kernel
theorem dX1_passDays_36 : decode cX1_passDays 36 = .ok (.aload_n 0, 1) := by decide +kernel
theorem dX1_passDays_37 : decode cX1_passDays 37 = .ok (.getfield 56, 3) := by decide +kernel
theorem dX1_passDays_40 : decode cX1_passDays 40 = .ok (.bipush 7, 2) := by decide +kernel
theorem dX1_passDays_42 : decode cX1_passDays 42 = .ok (.irem, 1) := by decide +kernel
theorem dX1_passDays_43 : decode cX1_passDays 43 = .ok (.invokevirtual 73, 3) := by decide +kernel
theorem dX1_passDays_46 : decode cX1_passDays 46 = .ok (.ifCond .eq 26, 3) := by decide +kernel
theorem dX1_passDays_49 : decode cX1_passDays 49 = .ok (.aload_n 0, 1) := by decide +kernel
theorem dX1_passDays_50 : decode cX1_passDays 50 = .ok (.getfield 43, 3) := by decide +kernel
theorem dX1_passDays_53 : decode cX1_passDays 53 = .ok (.iload 5, 2) := by decide +kernel
theorem dX1_passDays_55 : decode cX1_passDays 55 = .ok (.aload_n 0, 1) := by decide +kernel
theorem dX1_passDays_56 : decode cX1_passDays 56 = .ok (.getfield 43, 3) := by decide +kernel
theorem dX1_passDays_59 : decode cX1_passDays 59 = .ok (.iload 5, 2) := by decide +kernel
theorem dX1_passDays_61 : decode cX1_passDays 61 = .ok (.iaload, 1) := by decide +kernel
theorem dX1_passDays_62 : decode cX1_passDays 62 = .ok (.iconst 2, 1) := by decide +kernel
theorem dX1_passDays_63 : decode cX1_passDays 63 = .ok (.isub, 1) := by decide +kernel
theorem dX1_passDays_64 : decode cX1_passDays 64 = .ok (.iconst 0, 1) := by decide +kernel
theorem dX1_passDays_65 : decode cX1_passDays 65 = .ok (.invokestatic 80, 3) := by decide +kernel
theorem dX1_passDays_68 : decode cX1_passDays 68 = .ok (.iastore, 1) := by decide +kernel
theorem dX1_passDays_69 : decode cX1_passDays 69 = .ok (.goto 29, 3) := by decide +kernel
theorem dX1_passDays_72 : decode cX1_passDays 72 = .ok (.aload_n 0, 1) := by decide +kernel
theorem dX1_passDays_73 : decode cX1_passDays 73 = .ok (.iload 5, 2) := by decide +kernel
theorem dX1_passDays_75 : decode cX1_passDays 75 = .ok (.iload_n 2, 1) := by decide +kernel
theorem dX1_passDays_76 : decode cX1_passDays 76 = .ok (.iload 5, 2) := by decide +kernel
theorem dX1_passDays_78 : decode cX1_passDays 78 = .ok (.invokestatic 69, 3) := by decide +kernel
theorem dX1_passDays_81 : decode cX1_passDays 81 = .ok (.ifCond .ne 7, 3) := by decide +kernel
theorem dX1_passDays_84 : decode cX1_passDays 84 = .ok (.iconst 1, 1) := by decide +kernel
theorem dX1_passDays_85 : decode cX1_passDays 85 = .ok (.goto 4, 3) := by decide +kernel
theorem dX1_passDays_88 : decode cX1_passDays 88 = .ok (.iconst 0, 1) := by decide +kernel
theorem dX1_passDays_89 : decode cX1_passDays 89 = .ok (.invokevirtual 86, 3) := by decide +kernel
theorem dX1_passDays_92 : decode cX1_passDays 92 = .ok (.ifCond .eq 6, 3) := by decide +kernel
theorem dX1_passDays_95 : decode cX1_passDays 95 = .ok (.iinc 3 1, 3) := by decide +kernel
theorem dX1_passDays_98 : decode cX1_passDays 98 = .ok (.iinc 5 1, 3) := by decide +kernel
theorem dX1_passDays_101 : decode cX1_passDays 101 = .ok (.goto (-77), 3) := by decide +kernel
theorem dX1_passDays_104 : decode cX1_passDays 104 = .ok (.iinc 4 1, 3) := by decide +kernel
theorem dX1_passDays_107 : decode cX1_passDays 107 = .ok (.goto (-102), 3) := by decide +kernel
theorem dX1_passDays_110 : decode cX1_passDays 110 = .ok (.iload_n 3, 1) := by decide +kernel
theorem dX1_passDays_111 : decode cX1_passDays 111 = .ok (.ireturn, 1) := by decide +kernel
theorem dX1_isPaidAtWork_0 : decode cX1_isPaidAtWork 0 = .ok (.aload_n 0, 1) := by decide +kernel
theorem dX1_isPaidAtWork_1 : decode cX1_isPaidAtWork 1 = .ok (.getfield 43, 3) := by decide +kernel
theorem dX1_isPaidAtWork_4 : decode cX1_isPaidAtWork 4 = .ok (.iload_n 1, 1) := by decide +kernel
theorem dX1_isPaidAtWork_5 : decode cX1_isPaidAtWork 5 = .ok (.aload_n 0, 1) := by decide +kernel
theorem dX1_isPaidAtWork_6 : decode cX1_isPaidAtWork 6 = .ok (.getfield 43, 3) := by decide +kernel
theorem dX1_isPaidAtWork_9 : decode cX1_isPaidAtWork 9 = .ok (.iload_n 1, 1) := by decide +kernel
theorem dX1_isPaidAtWork_10 : decode cX1_isPaidAtWork 10 = .ok (.iaload, 1) := by decide +kernel
theorem dX1_isPaidAtWork_11 : decode cX1_isPaidAtWork 11 = .ok (.iconst 1, 1) := by decide +kernel
theorem dX1_isPaidAtWork_12 : decode cX1_isPaidAtWork 12 = .ok (.iadd, 1) := by decide +kernel
theorem dX1_isPaidAtWork_13 : decode cX1_isPaidAtWork 13 = .ok (.bipush 30, 2) := by decide +kernel
theorem dX1_isPaidAtWork_15 : decode cX1_isPaidAtWork 15 = .ok (.invokestatic 90, 3) := by decide +kernel
theorem dX1_isPaidAtWork_18 : decode cX1_isPaidAtWork 18 = .ok (.iastore, 1) := by decide +kernel
theorem dX1_isPaidAtWork_19 : decode cX1_isPaidAtWork 19 = .ok (.aload_n 0, 1) := by decide +kernel
theorem dX1_isPaidAtWork_20 : decode cX1_isPaidAtWork 20 = .ok (.getfield 46, 3) := by decide +kernel
theorem dX1_isPaidAtWork_23 : decode cX1_isPaidAtWork 23 = .ok (.iload_n 1, 1) := by decide +kernel
theorem dX1_isPaidAtWork_24 : decode cX1_isPaidAtWork 24 = .ok (.aload_n 0, 1) := by decide +kernel
theorem dX1_isPaidAtWork_25 : decode cX1_isPaidAtWork 25 = .ok (.getfield 46, 3) := by decide +kernel
theorem dX1_isPaidAtWork_28 : decode cX1_isPaidAtWork 28 = .ok (.iload_n 1, 1) := by decide +kernel
theorem dX1_isPaidAtWork_29 : decode cX1_isPaidAtWork 29 = .ok (.iaload, 1) := by decide +kernel
theorem dX1_isPaidAtWork_30 : decode cX1_isPaidAtWork 30 = .ok (.iconst 1, 1) := by decide +kernel
theorem dX1_isPaidAtWork_31 : decode cX1_isPaidAtWork 31 = .ok (.iadd, 1) := by decide +kernel
theorem dX1_isPaidAtWork_32 : decode cX1_isPaidAtWork 32 = .ok (.bipush 9, 2) := by decide +kernel
theorem dX1_isPaidAtWork_34 : decode cX1_isPaidAtWork 34 = .ok (.invokestatic 90, 3) := by decide +kernel
theorem dX1_isPaidAtWork_37 : decode cX1_isPaidAtWork 37 = .ok (.iastore, 1) := by decide +kernel
theorem dX1_isPaidAtWork_38 : decode cX1_isPaidAtWork 38 = .ok (.aload_n 0, 1) := by decide +kernel
theorem dX1_isPaidAtWork_39 : decode cX1_isPaidAtWork 39 = .ok (.iload_n 1, 1) := by decide +kernel
theorem dX1_isPaidAtWork_40 : decode cX1_isPaidAtWork 40 = .ok (.invokevirtual 93, 3) := by decide +kernel
theorem dX1_isPaidAtWork_43 : decode cX1_isPaidAtWork 43 = .ok (.astore_n 3, 1) := by decide +kernel
theorem dX1_isPaidAtWork_44 : decode cX1_isPaidAtWork 44 = .ok (.aload_n 3, 1) := by decide +kernel
theorem dX1_isPaidAtWork_45 : decode cX1_isPaidAtWork 45 = .ok (.aload_n 0, 1) := by decide +kernel
theorem dX1_isPaidAtWork_46 : decode cX1_isPaidAtWork 46 = .ok (.getfield 37, 3) := by decide +kernel
theorem dX1_isPaidAtWork_49 : decode cX1_isPaidAtWork 49 = .ok (.iload_n 1, 1) := by decide +kernel
theorem dX1_isPaidAtWork_50 : decode cX1_isPaidAtWork 50 = .ok (.iaload, 1) := by decide +kernel
theorem dX1_isPaidAtWork_51 : decode cX1_isPaidAtWork 51 = .ok (.invokevirtual 97, 3) := by decide +kernel
theorem dX1_isPaidAtWork_54 : decode cX1_isPaidAtWork 54 = .ok (.istore 4, 2) := by decide +kernel
theorem dX1_isPaidAtWork_56 : decode cX1_isPaidAtWork 56 = .ok (.iload_n 2, 1) := by decide +kernel
theorem dX1_isPaidAtWork_57 : decode cX1_isPaidAtWork 57 = .ok (.ifCond .eq 19, 3) := by decide +kernel
theorem dX1_isPaidAtWork_60 : decode cX1_isPaidAtWork 60 = .ok (.iload 4, 2) := by decide +kernel
theorem dX1_isPaidAtWork_62 : decode cX1_isPaidAtWork 62 = .ok (.ifCond .eq 14, 3) := by decide +kernel
theorem dX1_isPaidAtWork_65 : decode cX1_isPaidAtWork 65 = .ok (.aload_n 0, 1) := by decide +kernel
theorem dX1_isPaidAtWork_66 : decode cX1_isPaidAtWork 66 = .ok (.getfield 46, 3) := by decide +kernel
theorem dX1_isPaidAtWork_69 : decode cX1_isPaidAtWork 69 = .ok (.iload_n 1, 1) := by decide +kernel
theorem dX1_isPaidAtWork_70 : decode cX1_isPaidAtWork 70 = .ok (.iaload, 1) := by decide +kernel
theorem dX1_isPaidAtWork_71 : decode cX1_isPaidAtWork 71 = .ok (.iload 4, 2) := by decide +kernel
theorem dX1_isPaidAtWork_73 : decode cX1_isPaidAtWork 73 = .ok (.if_icmp .ge 5, 3) := by decide +kernel
theorem dX1_isPaidAtWork_76 : decode cX1_isPaidAtWork 76 = .ok (.iconst 0, 1) := by decide +kernel
theorem dX1_isPaidAtWork_77 : decode cX1_isPaidAtWork 77 = .ok (.ireturn, 1) := by decide +kernel
theorem dX1_isPaidAtWork_78 : decode cX1_isPaidAtWork 78 = .ok (.aload_n 3, 1) := by decide +kernel
theorem dX1_isPaidAtWork_79 : decode cX1_isPaidAtWork 79 = .ok (.aload_n 0, 1) := by decide +kernel
theorem dX1_isPaidAtWork_80 : decode cX1_isPaidAtWork 80 = .ok (.iload_n 1, 1) := by decide +kernel
theorem dX1_isPaidAtWork_81 : decode cX1_isPaidAtWork 81 = .ok (.invokevirtual 101, 3) := by decide +kernel
theorem dX1_isPaidAtWork_84 : decode cX1_isPaidAtWork 84 = .ok (.istore 5, 2) := by decide +kernel
theorem dX1_isPaidAtWork_86 : decode cX1_isPaidAtWork 86 = .ok (.iload 5, 2) := by decide +kernel
theorem dX1_isPaidAtWork_88 : decode cX1_isPaidAtWork 88 = .ok (.bipush (-9), 2) := by decide +kernel
theorem dX1_isPaidAtWork_90 : decode cX1_isPaidAtWork 90 = .ok (.if_icmp .ne 5, 3) := by decide +kernel
theorem dX1_isPaidAtWork_93 : decode cX1_isPaidAtWork 93 = .ok (.iconst 0, 1) := by decide +kernel
theorem dX1_isPaidAtWork_94 : decode cX1_isPaidAtWork 94 = .ok (.ireturn, 1) := by decide +kernel
theorem dX1_isPaidAtWork_95 : decode cX1_isPaidAtWork 95 = .ok (.aload_n 0, 1) := by decide +kernel
theorem dX1_isPaidAtWork_96 : decode cX1_isPaidAtWork 96 = .ok (.iload 5, 2) := by decide +kernel
theorem dX1_isPaidAtWork_98 : decode cX1_isPaidAtWork 98 = .ok (.iload_n 1, 1) := by decide +kernel
theorem dX1_isPaidAtWork_99 : decode cX1_isPaidAtWork 99 = .ok (.aload_n 3, 1) := by decide +kernel
theorem dX1_isPaidAtWork_100 : decode cX1_isPaidAtWork 100 = .ok (.aload_n 0, 1) := by decide +kernel
theorem dX1_isPaidAtWork_101 : decode cX1_isPaidAtWork 101 = .ok (.iload 5, 2) := by decide +kernel
theorem dX1_isPaidAtWork_103 : decode cX1_isPaidAtWork 103 = .ok (.iload_n 1, 1) := by decide +kernel
theorem dX1_isPaidAtWork_104 : decode cX1_isPaidAtWork 104 = .ok (.invokevirtual 105, 3) := by decide +kernel
theorem dX1_isPaidAtWork_107 : decode cX1_isPaidAtWork 107 = .ok (.invokevirtual 108, 3) := by decide +kernel
theorem dX1_isPaidAtWork_110 : decode cX1_isPaidAtWork 110 = .ok (.invokevirtual 111, 3) := by decide +kernel
theorem dX1_isPaidAtWork_113 : decode cX1_isPaidAtWork 113 = .ok (.aload_n 0, 1) := by decide +kernel
theorem dX1_isPaidAtWork_114 : decode cX1_isPaidAtWork 114 = .ok (.aload_n 0, 1) := by decide +kernel
theorem dX1_isPaidAtWork_115 : decode cX1_isPaidAtWork 115 = .ok (.getfield 53, 3) := by decide +kernel
theorem dX1_isPaidAtWork_118 : decode cX1_isPaidAtWork 118 = .ok (.iconst 1, 1) := by decide +kernel
theorem dX1_isPaidAtWork_119 : decode cX1_isPaidAtWork 119 = .ok (.iadd, 1) := by decide +kernel
theorem dX1_isPaidAtWork_120 : decode cX1_isPaidAtWork 120 = .ok (.sipush 9999, 3) := by decide +kernel
theorem dX1_isPaidAtWork_123 : decode cX1_isPaidAtWork 123 = .ok (.invokestatic 90, 3) := by decide +kernel
theorem dX1_isPaidAtWork_126 : decode cX1_isPaidAtWork 126 = .ok (.putfield 53, 3) := by decide +kernel
theorem dX1_isPaidAtWork_129 : decode cX1_isPaidAtWork 129 = .ok (.aload_n 0, 1) := by decide +kernel
theorem dX1_isPaidAtWork_130 : decode cX1_isPaidAtWork 130 = .ok (.getfield 46, 3) := by decide +kernel
theorem dX1_isPaidAtWork_133 : decode cX1_isPaidAtWork 133 = .ok (.iload_n 1, 1) := by decide +kernel
theorem dX1_isPaidAtWork_134 : decode cX1_isPaidAtWork 134 = .ok (.iconst 0, 1) := by decide +kernel
theorem dX1_isPaidAtWork_135 : decode cX1_isPaidAtWork 135 = .ok (.iastore, 1) := by decide +kernel
theorem dX1_isPaidAtWork_136 : decode cX1_isPaidAtWork 136 = .ok (.iconst 1, 1) := by decide +kernel
theorem dX1_isPaidAtWork_137 : decode cX1_isPaidAtWork 137 = .ok (.ireturn, 1) := by decide +kernel
theorem dX1_ruleOf_0 : decode cX1_ruleOf 0 = .ok (.aload_n 0, 1) := by decide +kernel
theorem dX1_ruleOf_1 : decode cX1_ruleOf 1 = .ok (.getfield 27, 3) := by decide +kernel
theorem dX1_ruleOf_4 : decode cX1_ruleOf 4 = .ok (.aload_n 0, 1) := by decide +kernel
theorem dX1_ruleOf_5 : decode cX1_ruleOf 5 = .ok (.getfield 33, 3) := by decide +kernel
theorem dX1_ruleOf_8 : decode cX1_ruleOf 8 = .ok (.iload_n 1, 1) := by decide +kernel
theorem dX1_ruleOf_9 : decode cX1_ruleOf 9 = .ok (.iaload, 1) := by decide +kernel
theorem dX1_ruleOf_10 : decode cX1_ruleOf 10 = .ok (.aaload, 1) := by decide +kernel
theorem dX1_ruleOf_11 : decode cX1_ruleOf 11 = .ok (.areturn, 1) := by decide +kernel
theorem dX1_offered_0 : decode cX1_offered 0 = .ok (.aload_n 0, 1) := by decide +kernel
theorem dX1_offered_1 : decode cX1_offered 1 = .ok (.getfield 40, 3) := by decide +kernel
theorem dX1_offered_4 : decode cX1_offered 4 = .ok (.iload_n 1, 1) := by decide +kernel
theorem dX1_offered_5 : decode cX1_offered 5 = .ok (.iaload, 1) := by decide +kernel
theorem dX1_offered_6 : decode cX1_offered 6 = .ok (.aload_n 0, 1) := by decide +kernel
theorem dX1_offered_7 : decode cX1_offered 7 = .ok (.getfield 40, 3) := by decide +kernel
theorem dX1_offered_10 : decode cX1_offered 10 = .ok (.iload_n 2, 1) := by decide +kernel
theorem dX1_offered_11 : decode cX1_offered 11 = .ok (.iaload, 1) := by decide +kernel
theorem dX1_offered_12 : decode cX1_offered 12 = .ok (.iconst (-1), 1) := by decide +kernel
theorem dX1_offered_13 : decode cX1_offered 13 = .ok (.ixor, 1) := by decide +kernel
theorem dX1_offered_14 : decode cX1_offered 14 = .ok (.iand, 1) := by decide +kernel
theorem dX1_offered_15 : decode cX1_offered 15 = .ok (.ireturn, 1) := by decide +kernel
theorem dX1_whoIsIn_0 : decode cX1_whoIsIn 0 = .ok (.iconst 0, 1) := by decide +kernel
theorem dX1_whoIsIn_1 : decode cX1_whoIsIn 1 = .ok (.istore_n 2, 1) := by decide +kernel
theorem dX1_whoIsIn_2 : decode cX1_whoIsIn 2 = .ok (.iconst 0, 1) := by decide +kernel
theorem dX1_whoIsIn_3 : decode cX1_whoIsIn 3 = .ok (.istore_n 3, 1) := by decide +kernel
theorem dX1_whoIsIn_4 : decode cX1_whoIsIn 4 = .ok (.iload_n 3, 1) := by decide +kernel
theorem dX1_whoIsIn_5 : decode cX1_whoIsIn 5 = .ok (.aload_n 0, 1) := by decide +kernel
theorem dX1_whoIsIn_6 : decode cX1_whoIsIn 6 = .ok (.getfield 49, 3) := by decide +kernel
theorem dX1_whoIsIn_9 : decode cX1_whoIsIn 9 = .ok (.if_icmp .ge 24, 3) := by decide +kernel
theorem dX1_whoIsIn_12 : decode cX1_whoIsIn 12 = .ok (.aload_n 0, 1) := by decide +kernel
theorem dX1_whoIsIn_13 : decode cX1_whoIsIn 13 = .ok (.iload_n 3, 1) := by decide +kernel
theorem dX1_whoIsIn_14 : decode cX1_whoIsIn 14 = .ok (.iload_n 1, 1) := by decide +kernel
theorem dX1_whoIsIn_15 : decode cX1_whoIsIn 15 = .ok (.invokevirtual 73, 3) := by decide +kernel
theorem dX1_whoIsIn_18 : decode cX1_whoIsIn 18 = .ok (.ifCond .ne 9, 3) := by decide +kernel
theorem dX1_whoIsIn_21 : decode cX1_whoIsIn 21 = .ok (.iload_n 2, 1) := by decide +kernel
theorem dX1_whoIsIn_22 : decode cX1_whoIsIn 22 = .ok (.iconst 1, 1) := by decide +kernel
theorem dX1_whoIsIn_23 : decode cX1_whoIsIn 23 = .ok (.iload_n 3, 1) := by decide +kernel
theorem dX1_whoIsIn_24 : decode cX1_whoIsIn 24 = .ok (.ishl, 1) := by decide +kernel
theorem dX1_whoIsIn_25 : decode cX1_whoIsIn 25 = .ok (.ior, 1) := by decide +kernel
theorem dX1_whoIsIn_26 : decode cX1_whoIsIn 26 = .ok (.istore_n 2, 1) := by decide +kernel
theorem dX1_whoIsIn_27 : decode cX1_whoIsIn 27 = .ok (.iinc 3 1, 3) := by decide +kernel
theorem dX1_whoIsIn_30 : decode cX1_whoIsIn 30 = .ok (.goto (-26), 3) := by decide +kernel
theorem dX1_whoIsIn_33 : decode cX1_whoIsIn 33 = .ok (.iload_n 2, 1) := by decide +kernel
theorem dX1_whoIsIn_34 : decode cX1_whoIsIn 34 = .ok (.ireturn, 1) := by decide +kernel
theorem dX1_whoFell_0 : decode cX1_whoFell 0 = .ok (.iconst 0, 1) := by decide +kernel
theorem dX1_whoFell_1 : decode cX1_whoFell 1 = .ok (.istore_n 1, 1) := by decide +kernel
theorem dX1_whoFell_2 : decode cX1_whoFell 2 = .ok (.iconst 0, 1) := by decide +kernel
theorem dX1_whoFell_3 : decode cX1_whoFell 3 = .ok (.istore_n 2, 1) := by decide +kernel
theorem dX1_whoFell_4 : decode cX1_whoFell 4 = .ok (.iload_n 2, 1) := by decide +kernel
theorem dX1_whoFell_5 : decode cX1_whoFell 5 = .ok (.aload_n 0, 1) := by decide +kernel
theorem dX1_whoFell_6 : decode cX1_whoFell 6 = .ok (.getfield 49, 3) := by decide +kernel
theorem dX1_whoFell_9 : decode cX1_whoFell 9 = .ok (.if_icmp .ge 26, 3) := by decide +kernel
theorem dX1_whoFell_12 : decode cX1_whoFell 12 = .ok (.aload_n 0, 1) := by decide +kernel
theorem dX1_whoFell_13 : decode cX1_whoFell 13 = .ok (.getfield 43, 3) := by decide +kernel
theorem dX1_whoFell_16 : decode cX1_whoFell 16 = .ok (.iload_n 2, 1) := by decide +kernel
theorem dX1_whoFell_17 : decode cX1_whoFell 17 = .ok (.iaload, 1) := by decide +kernel
theorem dX1_whoFell_18 : decode cX1_whoFell 18 = .ok (.bipush 20, 2) := by decide +kernel
theorem dX1_whoFell_20 : decode cX1_whoFell 20 = .ok (.if_icmp .lt 9, 3) := by decide +kernel
theorem dX1_whoFell_23 : decode cX1_whoFell 23 = .ok (.iload_n 1, 1) := by decide +kernel
theorem dX1_whoFell_24 : decode cX1_whoFell 24 = .ok (.iconst 1, 1) := by decide +kernel
theorem dX1_whoFell_25 : decode cX1_whoFell 25 = .ok (.iload_n 2, 1) := by decide +kernel
theorem dX1_whoFell_26 : decode cX1_whoFell 26 = .ok (.ishl, 1) := by decide +kernel
theorem dX1_whoFell_27 : decode cX1_whoFell 27 = .ok (.ior, 1) := by decide +kernel
theorem dX1_whoFell_28 : decode cX1_whoFell 28 = .ok (.istore_n 1, 1) := by decide +kernel
theorem dX1_whoFell_29 : decode cX1_whoFell 29 = .ok (.iinc 2 1, 3) := by decide +kernel
theorem dX1_whoFell_32 : decode cX1_whoFell 32 = .ok (.goto (-28), 3) := by decide +kernel
theorem dX1_whoFell_35 : decode cX1_whoFell 35 = .ok (.iload_n 1, 1) := by decide +kernel
theorem dX1_whoFell_36 : decode cX1_whoFell 36 = .ok (.ireturn, 1) := by decide +kernel
theorem dX1_offOn_0 : decode cX1_offOn 0 = .ok (.aload_n 0, 1) := by decide +kernel
theorem dX1_offOn_1 : decode cX1_offOn 1 = .ok (.getfield 49, 3) := by decide +kernel
theorem dX1_offOn_4 : decode cX1_offOn 4 = .ok (.aload_n 0, 1) := by decide +kernel
theorem dX1_offOn_5 : decode cX1_offOn 5 = .ok (.iload_n 1, 1) := by decide +kernel
theorem dX1_offOn_6 : decode cX1_offOn 6 = .ok (.invokevirtual 115, 3) := by decide +kernel
theorem dX1_offOn_9 : decode cX1_offOn 9 = .ok (.invokestatic 118, 3) := by decide +kernel
theorem dX1_offOn_12 : decode cX1_offOn 12 = .ok (.isub, 1) := by decide +kernel
theorem dX1_offOn_13 : decode cX1_offOn 13 = .ok (.ireturn, 1) := by decide +kernel
theorem dX1_strikeDay_0 : decode cX1_strikeDay 0 = .ok (.iconst 0, 1) := by decide +kernel
theorem dX1_strikeDay_1 : decode cX1_strikeDay 1 = .ok (.istore_n 1, 1) := by decide +kernel
theorem dX1_strikeDay_2 : decode cX1_strikeDay 2 = .ok (.iconst 1, 1) := by decide +kernel
theorem dX1_strikeDay_3 : decode cX1_strikeDay 3 = .ok (.istore_n 2, 1) := by decide +kernel
theorem dX1_strikeDay_4 : decode cX1_strikeDay 4 = .ok (.iload_n 2, 1) := by decide +kernel
theorem dX1_strikeDay_5 : decode cX1_strikeDay 5 = .ok (.bipush 7, 2) := by decide +kernel
theorem dX1_strikeDay_7 : decode cX1_strikeDay 7 = .ok (.if_icmp .ge 24, 3) := by decide +kernel
theorem dX1_strikeDay_10 : decode cX1_strikeDay 10 = .ok (.aload_n 0, 1) := by decide +kernel
theorem dX1_strikeDay_11 : decode cX1_strikeDay 11 = .ok (.iload_n 2, 1) := by decide +kernel
theorem dX1_strikeDay_12 : decode cX1_strikeDay 12 = .ok (.invokevirtual 123, 3) := by decide +kernel
theorem dX1_strikeDay_15 : decode cX1_strikeDay 15 = .ok (.aload_n 0, 1) := by decide +kernel
theorem dX1_strikeDay_16 : decode cX1_strikeDay 16 = .ok (.iload_n 1, 1) := by decide +kernel
theorem dX1_strikeDay_17 : decode cX1_strikeDay 17 = .ok (.invokevirtual 123, 3) := by decide +kernel
theorem dX1_strikeDay_20 : decode cX1_strikeDay 20 = .ok (.if_icmp .le 5, 3) := by decide +kernel
theorem dX1_strikeDay_23 : decode cX1_strikeDay 23 = .ok (.iload_n 2, 1) := by decide +kernel
theorem dX1_strikeDay_24 : decode cX1_strikeDay 24 = .ok (.istore_n 1, 1) := by decide +kernel
theorem dX1_strikeDay_25 : decode cX1_strikeDay 25 = .ok (.iinc 2 1, 3) := by decide +kernel
theorem dX1_strikeDay_28 : decode cX1_strikeDay 28 = .ok (.goto (-24), 3) := by decide +kernel
theorem dX1_strikeDay_31 : decode cX1_strikeDay 31 = .ok (.iload_n 1, 1) := by decide +kernel
theorem dX1_strikeDay_32 : decode cX1_strikeDay 32 = .ok (.ireturn, 1) := by decide +kernel
theorem dX1_coveredByNobody_0 : decode cX1_coveredByNobody 0 = .ok (.bipush 127, 2) := by decide +kernel
theorem dX1_coveredByNobody_2 : decode cX1_coveredByNobody 2 = .ok (.istore_n 1, 1) := by decide +kernel
theorem dX1_coveredByNobody_3 : decode cX1_coveredByNobody 3 = .ok (.iconst 0, 1) := by decide +kernel
theorem dX1_coveredByNobody_4 : decode cX1_coveredByNobody 4 = .ok (.istore_n 2, 1) := by decide +kernel
theorem dX1_coveredByNobody_5 : decode cX1_coveredByNobody 5 = .ok (.iload_n 2, 1) := by decide +kernel
theorem dX1_coveredByNobody_6 : decode cX1_coveredByNobody 6 = .ok (.aload_n 0, 1) := by decide +kernel
theorem dX1_coveredByNobody_7 : decode cX1_coveredByNobody 7 = .ok (.getfield 49, 3) := by decide +kernel
theorem dX1_coveredByNobody_10 : decode cX1_coveredByNobody 10 = .ok (.if_icmp .ge 18, 3) := by decide +kernel
theorem dX1_coveredByNobody_13 : decode cX1_coveredByNobody 13 = .ok (.iload_n 1, 1) := by decide +kernel
theorem dX1_coveredByNobody_14 : decode cX1_coveredByNobody 14 = .ok (.aload_n 0, 1) := by decide +kernel
theorem dX1_coveredByNobody_15 : decode cX1_coveredByNobody 15 = .ok (.getfield 40, 3) := by decide +kernel
theorem dX1_coveredByNobody_18 : decode cX1_coveredByNobody 18 = .ok (.iload_n 2, 1) := by decide +kernel
theorem dX1_coveredByNobody_19 : decode cX1_coveredByNobody 19 = .ok (.iaload, 1) := by decide +kernel
theorem dX1_coveredByNobody_20 : decode cX1_coveredByNobody 20 = .ok (.iand, 1) := by decide +kernel
theorem dX1_coveredByNobody_21 : decode cX1_coveredByNobody 21 = .ok (.istore_n 1, 1) := by decide +kernel
theorem dX1_coveredByNobody_22 : decode cX1_coveredByNobody 22 = .ok (.iinc 2 1, 3) := by decide +kernel
theorem dX1_coveredByNobody_25 : decode cX1_coveredByNobody 25 = .ok (.goto (-20), 3) := by decide +kernel
theorem dX1_coveredByNobody_28 : decode cX1_coveredByNobody 28 = .ok (.iload_n 1, 1) := by decide +kernel
theorem dX1_coveredByNobody_29 : decode cX1_coveredByNobody 29 = .ok (.ireturn, 1) := by decide +kernel
theorem dX1_richest_0 : decode cX1_richest 0 = .ok (.bipush (-9), 2) := by decide +kernel
theorem dX1_richest_2 : decode cX1_richest 2 = .ok (.istore_n 1, 1) := by decide +kernel
theorem dX1_richest_3 : decode cX1_richest 3 = .ok (.iconst (-1), 1) := by decide +kernel
theorem dX1_richest_4 : decode cX1_richest 4 = .ok (.istore_n 2, 1) := by decide +kernel
theorem dX1_richest_5 : decode cX1_richest 5 = .ok (.iconst 0, 1) := by decide +kernel
theorem dX1_richest_6 : decode cX1_richest 6 = .ok (.istore_n 3, 1) := by decide +kernel
theorem dX1_richest_7 : decode cX1_richest 7 = .ok (.iload_n 3, 1) := by decide +kernel
theorem dX1_richest_8 : decode cX1_richest 8 = .ok (.aload_n 0, 1) := by decide +kernel
theorem dX1_richest_9 : decode cX1_richest 9 = .ok (.getfield 49, 3) := by decide +kernel
theorem dX1_richest_12 : decode cX1_richest 12 = .ok (.if_icmp .ge 39, 3) := by decide +kernel
theorem dX1_richest_15 : decode cX1_richest 15 = .ok (.aload_n 0, 1) := by decide +kernel
theorem dX1_richest_16 : decode cX1_richest 16 = .ok (.getfield 40, 3) := by decide +kernel
theorem dX1_richest_19 : decode cX1_richest 19 = .ok (.iload_n 3, 1) := by decide +kernel
theorem dX1_richest_20 : decode cX1_richest 20 = .ok (.iaload, 1) := by decide +kernel
theorem dX1_richest_21 : decode cX1_richest 21 = .ok (.invokestatic 118, 3) := by decide +kernel
theorem dX1_richest_24 : decode cX1_richest 24 = .ok (.istore 4, 2) := by decide +kernel
theorem dX1_richest_26 : decode cX1_richest 26 = .ok (.iload 4, 2) := by decide +kernel
theorem dX1_richest_28 : decode cX1_richest 28 = .ok (.iload_n 2, 1) := by decide +kernel
theorem dX1_richest_29 : decode cX1_richest 29 = .ok (.if_icmp .le 7, 3) := by decide +kernel
theorem dX1_richest_32 : decode cX1_richest 32 = .ok (.iload_n 3, 1) := by decide +kernel
theorem dX1_richest_33 : decode cX1_richest 33 = .ok (.goto 4, 3) := by decide +kernel
theorem dX1_richest_36 : decode cX1_richest 36 = .ok (.iload_n 1, 1) := by decide +kernel
theorem dX1_richest_37 : decode cX1_richest 37 = .ok (.istore_n 1, 1) := by decide +kernel
theorem dX1_richest_38 : decode cX1_richest 38 = .ok (.iload_n 2, 1) := by decide +kernel
theorem dX1_richest_39 : decode cX1_richest 39 = .ok (.iload 4, 2) := by decide +kernel
theorem dX1_richest_41 : decode cX1_richest 41 = .ok (.invokestatic 80, 3) := by decide +kernel
theorem dX1_richest_44 : decode cX1_richest 44 = .ok (.istore_n 2, 1) := by decide +kernel
theorem dX1_richest_45 : decode cX1_richest 45 = .ok (.iinc 3 1, 3) := by decide +kernel
theorem dX1_richest_48 : decode cX1_richest 48 = .ok (.goto (-41), 3) := by decide +kernel
theorem dX1_richest_51 : decode cX1_richest 51 = .ok (.iload_n 1, 1) := by decide +kernel
theorem dX1_richest_52 : decode cX1_richest 52 = .ok (.ireturn, 1) := by decide +kernel
theorem dX1_meetings_0 : decode cX1_meetings 0 = .ok (.aload_n 0, 1) := by decide +kernel
theorem dX1_meetings_1 : decode cX1_meetings 1 = .ok (.getfield 40, 3) := by decide +kernel
theorem dX1_meetings_4 : decode cX1_meetings 4 = .ok (.iload_n 1, 1) := by decide +kernel
theorem dX1_meetings_5 : decode cX1_meetings 5 = .ok (.iaload, 1) := by decide +kernel
theorem dX1_meetings_6 : decode cX1_meetings 6 = .ok (.aload_n 0, 1) := by decide +kernel
theorem dX1_meetings_7 : decode cX1_meetings 7 = .ok (.getfield 40, 3) := by decide +kernel
theorem dX1_meetings_10 : decode cX1_meetings 10 = .ok (.iload_n 2, 1) := by decide +kernel
theorem dX1_meetings_11 : decode cX1_meetings 11 = .ok (.iaload, 1) := by decide +kernel
theorem dX1_meetings_12 : decode cX1_meetings 12 = .ok (.ior, 1) := by decide +kernel
theorem dX1_meetings_13 : decode cX1_meetings 13 = .ok (.iconst (-1), 1) := by decide +kernel
theorem dX1_meetings_14 : decode cX1_meetings 14 = .ok (.ixor, 1) := by decide +kernel
theorem dX1_meetings_15 : decode cX1_meetings 15 = .ok (.bipush 127, 2) := by decide +kernel
theorem dX1_meetings_17 : decode cX1_meetings 17 = .ok (.iand, 1) := by decide +kernel
theorem dX1_meetings_18 : decode cX1_meetings 18 = .ok (.ireturn, 1) := by decide +kernel
theorem dX1_allOff_0 : decode cX1_allOff 0 = .ok (.iconst 0, 1) := by decide +kernel
theorem dX1_allOff_1 : decode cX1_allOff 1 = .ok (.istore_n 1, 1) := by decide +kernel
theorem dX1_allOff_2 : decode cX1_allOff 2 = .ok (.iconst 0, 1) := by decide +kernel
theorem dX1_allOff_3 : decode cX1_allOff 3 = .ok (.istore_n 2, 1) := by decide +kernel
theorem dX1_allOff_4 : decode cX1_allOff 4 = .ok (.iload_n 2, 1) := by decide +kernel
theorem dX1_allOff_5 : decode cX1_allOff 5 = .ok (.aload_n 0, 1) := by decide +kernel
theorem dX1_allOff_6 : decode cX1_allOff 6 = .ok (.getfield 49, 3) := by decide +kernel
theorem dX1_allOff_9 : decode cX1_allOff 9 = .ok (.if_icmp .ge 21, 3) := by decide +kernel
theorem dX1_allOff_12 : decode cX1_allOff 12 = .ok (.iload_n 1, 1) := by decide +kernel
theorem dX1_allOff_13 : decode cX1_allOff 13 = .ok (.aload_n 0, 1) := by decide +kernel
theorem dX1_allOff_14 : decode cX1_allOff 14 = .ok (.getfield 40, 3) := by decide +kernel
theorem dX1_allOff_17 : decode cX1_allOff 17 = .ok (.iload_n 2, 1) := by decide +kernel
theorem dX1_allOff_18 : decode cX1_allOff 18 = .ok (.iaload, 1) := by decide +kernel
theorem dX1_allOff_19 : decode cX1_allOff 19 = .ok (.invokestatic 118, 3) := by decide +kernel
theorem dX1_allOff_22 : decode cX1_allOff 22 = .ok (.iadd, 1) := by decide +kernel
theorem dX1_allOff_23 : decode cX1_allOff 23 = .ok (.istore_n 1, 1) := by decide +kernel
theorem dX1_allOff_24 : decode cX1_allOff 24 = .ok (.iinc 2 1, 3) := by decide +kernel
theorem dX1_allOff_27 : decode cX1_allOff 27 = .ok (.goto (-23), 3) := by decide +kernel
theorem dX1_allOff_30 : decode cX1_allOff 30 = .ok (.iload_n 1, 1) := by decide +kernel
theorem dX1_allOff_31 : decode cX1_allOff 31 = .ok (.ireturn, 1) := by decide +kernel
theorem dX1_allTired_0 : decode cX1_allTired 0 = .ok (.iconst 0, 1) := by decide +kernel
theorem dX1_allTired_1 : decode cX1_allTired 1 = .ok (.istore_n 1, 1) := by decide +kernel
theorem dX1_allTired_2 : decode cX1_allTired 2 = .ok (.iconst 0, 1) := by decide +kernel
theorem dX1_allTired_3 : decode cX1_allTired 3 = .ok (.istore_n 2, 1) := by decide +kernel
theorem dX1_allTired_4 : decode cX1_allTired 4 = .ok (.iload_n 2, 1) := by decide +kernel
theorem dX1_allTired_5 : decode cX1_allTired 5 = .ok (.aload_n 0, 1) := by decide +kernel
theorem dX1_allTired_6 : decode cX1_allTired 6 = .ok (.getfield 49, 3) := by decide +kernel
theorem dX1_allTired_9 : decode cX1_allTired 9 = .ok (.if_icmp .ge 18, 3) := by decide +kernel
theorem dX1_allTired_12 : decode cX1_allTired 12 = .ok (.iload_n 1, 1) := by decide +kernel
theorem dX1_allTired_13 : decode cX1_allTired 13 = .ok (.aload_n 0, 1) := by decide +kernel
theorem dX1_allTired_14 : decode cX1_allTired 14 = .ok (.getfield 43, 3) := by decide +kernel
theorem dX1_allTired_17 : decode cX1_allTired 17 = .ok (.iload_n 2, 1) := by decide +kernel
theorem dX1_allTired_18 : decode cX1_allTired 18 = .ok (.iaload, 1) := by decide +kernel
theorem dX1_allTired_19 : decode cX1_allTired 19 = .ok (.iadd, 1) := by decide +kernel
theorem dX1_allTired_20 : decode cX1_allTired 20 = .ok (.istore_n 1, 1) := by decide +kernel
theorem dX1_allTired_21 : decode cX1_allTired 21 = .ok (.iinc 2 1, 3) := by decide +kernel
theorem dX1_allTired_24 : decode cX1_allTired 24 = .ok (.goto (-20), 3) := by decide +kernel
theorem dX1_allTired_27 : decode cX1_allTired 27 = .ok (.iload_n 1, 1) := by decide +kernel
theorem dX1_allTired_28 : decode cX1_allTired 28 = .ok (.ireturn, 1) := by decide +kernel
theorem dX2_init_0 : decode cX2_init 0 = .ok (.aload_n 0, 1) := by decide +kernel
theorem dX2_init_1 : decode cX2_init 1 = .ok (.invokespecial 3, 3) := by decide +kernel
theorem dX2_init_4 : decode cX2_init 4 = .ok (.return_, 1) := by decide +kernel
theorem dX2_dueAfter_0 : decode cX2_dueAfter 0 = .ok (.iconst 1, 1) := by decide +kernel
theorem dX2_dueAfter_1 : decode cX2_dueAfter 1 = .ok (.ireturn, 1) := by decide +kernel
theorem dX2_choosePayer_0 : decode cX2_choosePayer 0 = .ok (.iconst 0, 1) := by decide +kernel
theorem dX2_choosePayer_1 : decode cX2_choosePayer 1 = .ok (.istore_n 3, 1) := by decide +kernel
theorem dX2_choosePayer_2 : decode cX2_choosePayer 2 = .ok (.iload_n 3, 1) := by decide +kernel
theorem dX2_choosePayer_3 : decode cX2_choosePayer 3 = .ok (.aload_n 1, 1) := by decide +kernel
theorem dX2_choosePayer_4 : decode cX2_choosePayer 4 = .ok (.getfield 9, 3) := by decide +kernel
theorem dX2_choosePayer_7 : decode cX2_choosePayer 7 = .ok (.if_icmp .ge 20, 3) := by decide +kernel
theorem dX2_choosePayer_10 : decode cX2_choosePayer 10 = .ok (.aload_n 1, 1) := by decide +kernel
theorem dX2_choosePayer_11 : decode cX2_choosePayer 11 = .ok (.iload_n 3, 1) := by decide +kernel
theorem dX2_choosePayer_12 : decode cX2_choosePayer 12 = .ok (.iload_n 2, 1) := by decide +kernel
theorem dX2_choosePayer_13 : decode cX2_choosePayer 13 = .ok (.invokevirtual 15, 3) := by decide +kernel
theorem dX2_choosePayer_16 : decode cX2_choosePayer 16 = .ok (.ifCond .eq 5, 3) := by decide +kernel
theorem dX2_choosePayer_19 : decode cX2_choosePayer 19 = .ok (.iload_n 3, 1) := by decide +kernel
theorem dX2_choosePayer_20 : decode cX2_choosePayer 20 = .ok (.ireturn, 1) := by decide +kernel
theorem dX2_choosePayer_21 : decode cX2_choosePayer 21 = .ok (.iinc 3 1, 3) := by decide +kernel
theorem dX2_choosePayer_24 : decode cX2_choosePayer 24 = .ok (.goto (-22), 3) := by decide +kernel
theorem dX2_choosePayer_27 : decode cX2_choosePayer 27 = .ok (.bipush (-9), 2) := by decide +kernel
theorem dX2_choosePayer_29 : decode cX2_choosePayer 29 = .ok (.ireturn, 1) := by decide +kernel
theorem dX3_init_0 : decode cX3_init 0 = .ok (.aload_n 0, 1) := by decide +kernel
theorem dX3_init_1 : decode cX3_init 1 = .ok (.invokespecial 3, 3) := by decide +kernel
theorem dX3_init_4 : decode cX3_init 4 = .ok (.return_, 1) := by decide +kernel
theorem dX3_choosePayer_0 : decode cX3_choosePayer 0 = .ok (.bipush (-9), 2) := by decide +kernel
theorem dX3_choosePayer_2 : decode cX3_choosePayer 2 = .ok (.istore_n 3, 1) := by decide +kernel
theorem dX3_choosePayer_3 : decode cX3_choosePayer 3 = .ok (.iconst 0, 1) := by decide +kernel
theorem dX3_choosePayer_4 : decode cX3_choosePayer 4 = .ok (.istore 4, 2) := by decide +kernel
theorem dX3_choosePayer_6 : decode cX3_choosePayer 6 = .ok (.iconst 0, 1) := by decide +kernel
theorem dX3_choosePayer_7 : decode cX3_choosePayer 7 = .ok (.istore 5, 2) := by decide +kernel
theorem dX3_choosePayer_9 : decode cX3_choosePayer 9 = .ok (.iload 5, 2) := by decide +kernel
theorem dX3_choosePayer_11 : decode cX3_choosePayer 11 = .ok (.aload_n 1, 1) := by decide +kernel
theorem dX3_choosePayer_12 : decode cX3_choosePayer 12 = .ok (.getfield 9, 3) := by decide +kernel
theorem dX3_choosePayer_15 : decode cX3_choosePayer 15 = .ok (.if_icmp .ge 45, 3) := by decide +kernel
theorem dX3_choosePayer_18 : decode cX3_choosePayer 18 = .ok (.aload_n 1, 1) := by decide +kernel
theorem dX3_choosePayer_19 : decode cX3_choosePayer 19 = .ok (.getfield 15, 3) := by decide +kernel
theorem dX3_choosePayer_22 : decode cX3_choosePayer 22 = .ok (.iload 5, 2) := by decide +kernel
theorem dX3_choosePayer_24 : decode cX3_choosePayer 24 = .ok (.iaload, 1) := by decide +kernel
theorem dX3_choosePayer_25 : decode cX3_choosePayer 25 = .ok (.invokestatic 19, 3) := by decide +kernel
theorem dX3_choosePayer_28 : decode cX3_choosePayer 28 = .ok (.istore 6, 2) := by decide +kernel
theorem dX3_choosePayer_30 : decode cX3_choosePayer 30 = .ok (.iload 6, 2) := by decide +kernel
theorem dX3_choosePayer_32 : decode cX3_choosePayer 32 = .ok (.iload 4, 2) := by decide +kernel
theorem dX3_choosePayer_34 : decode cX3_choosePayer 34 = .ok (.if_icmp .le 20, 3) := by decide +kernel
theorem dX3_choosePayer_37 : decode cX3_choosePayer 37 = .ok (.aload_n 1, 1) := by decide +kernel
theorem dX3_choosePayer_38 : decode cX3_choosePayer 38 = .ok (.iload 5, 2) := by decide +kernel
theorem dX3_choosePayer_40 : decode cX3_choosePayer 40 = .ok (.iload_n 2, 1) := by decide +kernel
theorem dX3_choosePayer_41 : decode cX3_choosePayer 41 = .ok (.invokevirtual 25, 3) := by decide +kernel
theorem dX3_choosePayer_44 : decode cX3_choosePayer 44 = .ok (.ifCond .eq 10, 3) := by decide +kernel
theorem dX3_choosePayer_47 : decode cX3_choosePayer 47 = .ok (.iload 5, 2) := by decide +kernel
theorem dX3_choosePayer_49 : decode cX3_choosePayer 49 = .ok (.istore_n 3, 1) := by decide +kernel
theorem dX3_choosePayer_50 : decode cX3_choosePayer 50 = .ok (.iload 6, 2) := by decide +kernel
theorem dX3_choosePayer_52 : decode cX3_choosePayer 52 = .ok (.istore 4, 2) := by decide +kernel
theorem dX3_choosePayer_54 : decode cX3_choosePayer 54 = .ok (.iinc 5 1, 3) := by decide +kernel
theorem dX3_choosePayer_57 : decode cX3_choosePayer 57 = .ok (.goto (-48), 3) := by decide +kernel
theorem dX3_choosePayer_60 : decode cX3_choosePayer 60 = .ok (.iload_n 3, 1) := by decide +kernel
theorem dX3_choosePayer_61 : decode cX3_choosePayer 61 = .ok (.ireturn, 1) := by decide +kernel
theorem dX4_init_0 : decode cX4_init 0 = .ok (.aload_n 0, 1) := by decide +kernel
theorem dX4_init_1 : decode cX4_init 1 = .ok (.invokespecial 1, 3) := by decide +kernel
theorem dX4_init_4 : decode cX4_init 4 = .ok (.return_, 1) := by decide +kernel
theorem dX4_dueAfter_0 : decode cX4_dueAfter 0 = .ok (.iconst 0, 1) := by decide +kernel
theorem dX4_dueAfter_1 : decode cX4_dueAfter 1 = .ok (.ireturn, 1) := by decide +kernel
theorem dX5_init_0 : decode cX5_init 0 = .ok (.aload_n 0, 1) := by decide +kernel
theorem dX5_init_1 : decode cX5_init 1 = .ok (.invokespecial 3, 3) := by decide +kernel
theorem dX5_init_4 : decode cX5_init 4 = .ok (.aload_n 0, 1) := by decide +kernel
theorem dX5_init_5 : decode cX5_init 5 = .ok (.bipush 96, 2) := by decide +kernel
theorem dX5_init_7 : decode cX5_init 7 = .ok (.newarray .char, 2) := by decide +kernel
theorem dX5_init_9 : decode cX5_init 9 = .ok (.putfield 9, 3) := by decide +kernel
theorem dX5_init_12 : decode cX5_init 12 = .ok (.aload_n 0, 1) := by decide +kernel
theorem dX5_init_13 : decode cX5_init 13 = .ok (.iconst 0, 1) := by decide +kernel
theorem dX5_init_14 : decode cX5_init 14 = .ok (.putfield 15, 3) := by decide +kernel
theorem dX5_init_17 : decode cX5_init 17 = .ok (.return_, 1) := by decide +kernel
theorem dX5_isFull_0 : decode cX5_isFull 0 = .ok (.aload_n 0, 1) := by decide +kernel
theorem dX5_isFull_1 : decode cX5_isFull 1 = .ok (.getfield 15, 3) := by decide +kernel
theorem dX5_isFull_4 : decode cX5_isFull 4 = .ok (.bipush 96, 2) := by decide +kernel
theorem dX5_isFull_6 : decode cX5_isFull 6 = .ok (.if_icmp .lt 7, 3) := by decide +kernel
theorem dX5_isFull_9 : decode cX5_isFull 9 = .ok (.iconst 1, 1) := by decide +kernel
theorem dX5_isFull_10 : decode cX5_isFull 10 = .ok (.goto 4, 3) := by decide +kernel
theorem dX5_isFull_13 : decode cX5_isFull 13 = .ok (.iconst 0, 1) := by decide +kernel
theorem dX5_isFull_14 : decode cX5_isFull 14 = .ok (.ireturn, 1) := by decide +kernel
theorem dX5_add_0 : decode cX5_add 0 = .ok (.aload_n 0, 1) := by decide +kernel
theorem dX5_add_1 : decode cX5_add 1 = .ok (.invokevirtual 19, 3) := by decide +kernel
theorem dX5_add_4 : decode cX5_add 4 = .ok (.ifCond .ne 23, 3) := by decide +kernel
theorem dX5_add_7 : decode cX5_add 7 = .ok (.aload_n 0, 1) := by decide +kernel
theorem dX5_add_8 : decode cX5_add 8 = .ok (.getfield 9, 3) := by decide +kernel
theorem dX5_add_11 : decode cX5_add 11 = .ok (.aload_n 0, 1) := by decide +kernel
theorem dX5_add_12 : decode cX5_add 12 = .ok (.getfield 15, 3) := by decide +kernel
theorem dX5_add_15 : decode cX5_add 15 = .ok (.iload_n 1, 1) := by decide +kernel
theorem dX5_add_16 : decode cX5_add 16 = .ok (.castore, 1) := by decide +kernel
theorem dX5_add_17 : decode cX5_add 17 = .ok (.aload_n 0, 1) := by decide +kernel
theorem dX5_add_18 : decode cX5_add 18 = .ok (.dup, 1) := by decide +kernel
theorem dX5_add_19 : decode cX5_add 19 = .ok (.getfield 15, 3) := by decide +kernel
theorem dX5_add_22 : decode cX5_add 22 = .ok (.iconst 1, 1) := by decide +kernel
theorem dX5_add_23 : decode cX5_add 23 = .ok (.iadd, 1) := by decide +kernel
theorem dX5_add_24 : decode cX5_add 24 = .ok (.putfield 15, 3) := by decide +kernel
theorem dX5_add_27 : decode cX5_add 27 = .ok (.return_, 1) := by decide +kernel
theorem dX5_forget_0 : decode cX5_forget 0 = .ok (.aload_n 0, 1) := by decide +kernel
theorem dX5_forget_1 : decode cX5_forget 1 = .ok (.iconst 0, 1) := by decide +kernel
theorem dX5_forget_2 : decode cX5_forget 2 = .ok (.putfield 15, 3) := by decide +kernel
theorem dX5_forget_5 : decode cX5_forget 5 = .ok (.return_, 1) := by decide +kernel
theorem dX5_firstWrongLetter_0 : decode cX5_firstWrongLetter 0 = .ok (.iconst 0, 1) := by decide +kernel
theorem dX5_firstWrongLetter_1 : decode cX5_firstWrongLetter 1 = .ok (.istore_n 1, 1) := by decide +kernel
theorem dX5_firstWrongLetter_2 : decode cX5_firstWrongLetter 2 = .ok (.aload_n 0, 1) := by decide +kernel
theorem dX5_firstWrongLetter_3 : decode cX5_firstWrongLetter 3 = .ok (.iload_n 1, 1) := by decide +kernel
theorem dX5_firstWrongLetter_4 : decode cX5_firstWrongLetter 4 = .ok (.invokevirtual 23, 3) := by decide +kernel
theorem dX5_firstWrongLetter_7 : decode cX5_firstWrongLetter 7 = .ok (.astore_n 2, 1) := by decide +kernel
theorem dX5_firstWrongLetter_8 : decode cX5_firstWrongLetter 8 = .ok (.aload_n 2, 1) := by decide +kernel
theorem dX5_firstWrongLetter_9 : decode cX5_firstWrongLetter 9 = .ok (.invokevirtual 27, 3) := by decide +kernel
theorem dX5_firstWrongLetter_12 : decode cX5_firstWrongLetter 12 = .ok (.ifCond .eq 5, 3) := by decide +kernel
theorem dX5_firstWrongLetter_15 : decode cX5_firstWrongLetter 15 = .ok (.iload_n 1, 1) := by decide +kernel
theorem dX5_firstWrongLetter_16 : decode cX5_firstWrongLetter 16 = .ok (.ireturn, 1) := by decide +kernel
theorem dX5_firstWrongLetter_17 : decode cX5_firstWrongLetter 17 = .ok (.iconst 0, 1) := by decide +kernel
theorem dX5_firstWrongLetter_18 : decode cX5_firstWrongLetter 18 = .ok (.istore_n 3, 1) := by decide +kernel
theorem dX5_firstWrongLetter_19 : decode cX5_firstWrongLetter 19 = .ok (.iload_n 3, 1) := by decide +kernel
theorem dX5_firstWrongLetter_20 : decode cX5_firstWrongLetter 20 = .ok (.aload_n 2, 1) := by decide +kernel
theorem dX5_firstWrongLetter_21 : decode cX5_firstWrongLetter 21 = .ok (.invokevirtual 32, 3) := by decide +kernel
theorem dX5_firstWrongLetter_24 : decode cX5_firstWrongLetter 24 = .ok (.if_icmp .ge 39, 3) := by decide +kernel
theorem dX5_firstWrongLetter_27 : decode cX5_firstWrongLetter 27 = .ok (.iinc 1 1, 3) := by decide +kernel
theorem dX5_firstWrongLetter_30 : decode cX5_firstWrongLetter 30 = .ok (.iload_n 1, 1) := by decide +kernel
theorem dX5_firstWrongLetter_31 : decode cX5_firstWrongLetter 31 = .ok (.aload_n 0, 1) := by decide +kernel
theorem dX5_firstWrongLetter_32 : decode cX5_firstWrongLetter 32 = .ok (.getfield 15, 3) := by decide +kernel
theorem dX5_firstWrongLetter_35 : decode cX5_firstWrongLetter 35 = .ok (.if_icmp .ge 20, 3) := by decide +kernel
theorem dX5_firstWrongLetter_38 : decode cX5_firstWrongLetter 38 = .ok (.aload_n 2, 1) := by decide +kernel
theorem dX5_firstWrongLetter_39 : decode cX5_firstWrongLetter 39 = .ok (.iload_n 3, 1) := by decide +kernel
theorem dX5_firstWrongLetter_40 : decode cX5_firstWrongLetter 40 = .ok (.invokevirtual 36, 3) := by decide +kernel
theorem dX5_firstWrongLetter_43 : decode cX5_firstWrongLetter 43 = .ok (.aload_n 0, 1) := by decide +kernel
theorem dX5_firstWrongLetter_44 : decode cX5_firstWrongLetter 44 = .ok (.getfield 9, 3) := by decide +kernel
theorem dX5_firstWrongLetter_47 : decode cX5_firstWrongLetter 47 = .ok (.iload_n 1, 1) := by decide +kernel
theorem dX5_firstWrongLetter_48 : decode cX5_firstWrongLetter 48 = .ok (.caload, 1) := by decide +kernel
theorem dX5_firstWrongLetter_49 : decode cX5_firstWrongLetter 49 = .ok (.invokestatic 40, 3) := by decide +kernel
theorem dX5_firstWrongLetter_52 : decode cX5_firstWrongLetter 52 = .ok (.ifCond .ne 5, 3) := by decide +kernel
theorem dX5_firstWrongLetter_55 : decode cX5_firstWrongLetter 55 = .ok (.iload_n 1, 1) := by decide +kernel
theorem dX5_firstWrongLetter_56 : decode cX5_firstWrongLetter 56 = .ok (.ireturn, 1) := by decide +kernel
theorem dX5_firstWrongLetter_57 : decode cX5_firstWrongLetter 57 = .ok (.iinc 3 1, 3) := by decide +kernel
theorem dX5_firstWrongLetter_60 : decode cX5_firstWrongLetter 60 = .ok (.goto (-41), 3) := by decide +kernel
theorem dX5_firstWrongLetter_63 : decode cX5_firstWrongLetter 63 = .ok (.iinc 1 1, 3) := by decide +kernel
theorem dX5_firstWrongLetter_66 : decode cX5_firstWrongLetter 66 = .ok (.iload_n 1, 1) := by decide +kernel
theorem dX5_firstWrongLetter_67 : decode cX5_firstWrongLetter 67 = .ok (.aload_n 0, 1) := by decide +kernel
theorem dX5_firstWrongLetter_68 : decode cX5_firstWrongLetter 68 = .ok (.getfield 15, 3) := by decide +kernel
theorem dX5_firstWrongLetter_71 : decode cX5_firstWrongLetter 71 = .ok (.if_icmp .lt (-69), 3) := by decide +kernel
theorem dX5_firstWrongLetter_74 : decode cX5_firstWrongLetter 74 = .ok (.bipush (-9), 2) := by decide +kernel
theorem dX5_firstWrongLetter_76 : decode cX5_firstWrongLetter 76 = .ok (.ireturn, 1) := by decide +kernel
theorem dX5_shapeAt_0 : decode cX5_shapeAt 0 = .ok (.iload_n 1, 1) := by decide +kernel
theorem dX5_shapeAt_1 : decode cX5_shapeAt 1 = .ok (.aload_n 0, 1) := by decide +kernel
theorem dX5_shapeAt_2 : decode cX5_shapeAt 2 = .ok (.getfield 15, 3) := by decide +kernel
theorem dX5_shapeAt_5 : decode cX5_shapeAt 5 = .ok (.if_icmp .ge 12, 3) := by decide +kernel
theorem dX5_shapeAt_8 : decode cX5_shapeAt 8 = .ok (.aload_n 0, 1) := by decide +kernel
theorem dX5_shapeAt_9 : decode cX5_shapeAt 9 = .ok (.getfield 9, 3) := by decide +kernel
theorem dX5_shapeAt_12 : decode cX5_shapeAt 12 = .ok (.iload_n 1, 1) := by decide +kernel
theorem dX5_shapeAt_13 : decode cX5_shapeAt 13 = .ok (.caload, 1) := by decide +kernel
theorem dX5_shapeAt_14 : decode cX5_shapeAt 14 = .ok (.goto 4, 3) := by decide +kernel
theorem dX5_shapeAt_17 : decode cX5_shapeAt 17 = .ok (.iconst 0, 1) := by decide +kernel
theorem dX5_shapeAt_18 : decode cX5_shapeAt 18 = .ok (.lookupswitch 59 #[(100, 53), (111, 53), (116, 56), (119, 50), (120, 56)], 50) := by decide +kernel
theorem dX5_shapeAt_68 : decode cX5_shapeAt 68 = .ok (.ldc 44, 2) := by decide +kernel
theorem dX5_shapeAt_70 : decode cX5_shapeAt 70 = .ok (.areturn, 1) := by decide +kernel
theorem dX5_shapeAt_71 : decode cX5_shapeAt 71 = .ok (.ldc 46, 2) := by decide +kernel
theorem dX5_shapeAt_73 : decode cX5_shapeAt 73 = .ok (.areturn, 1) := by decide +kernel
theorem dX5_shapeAt_74 : decode cX5_shapeAt 74 = .ok (.ldc 48, 2) := by decide +kernel
theorem dX5_shapeAt_76 : decode cX5_shapeAt 76 = .ok (.areturn, 1) := by decide +kernel
theorem dX5_shapeAt_77 : decode cX5_shapeAt 77 = .ok (.ldc 50, 2) := by decide +kernel
theorem dX5_shapeAt_79 : decode cX5_shapeAt 79 = .ok (.areturn, 1) := by decide +kernel
theorem dX5_isAs_0 : decode cX5_isAs 0 = .ok (.iload_n 0, 1) := by decide +kernel
theorem dX5_isAs_1 : decode cX5_isAs 1 = .ok (.bipush 107, 2) := by decide +kernel
theorem dX5_isAs_3 : decode cX5_isAs 3 = .ok (.if_icmp .ne 18, 3) := by decide +kernel
theorem dX5_isAs_6 : decode cX5_isAs 6 = .ok (.ldc 52, 2) := by decide +kernel
theorem dX5_isAs_8 : decode cX5_isAs 8 = .ok (.iload_n 1, 1) := by decide +kernel
theorem dX5_isAs_9 : decode cX5_isAs 9 = .ok (.invokevirtual 54, 3) := by decide +kernel
theorem dX5_isAs_12 : decode cX5_isAs 12 = .ok (.ifCond .lt 7, 3) := by decide +kernel
theorem dX5_isAs_15 : decode cX5_isAs 15 = .ok (.iconst 1, 1) := by decide +kernel
theorem dX5_isAs_16 : decode cX5_isAs 16 = .ok (.goto 4, 3) := by decide +kernel
theorem dX5_isAs_19 : decode cX5_isAs 19 = .ok (.iconst 0, 1) := by decide +kernel
theorem dX5_isAs_20 : decode cX5_isAs 20 = .ok (.ireturn, 1) := by decide +kernel
theorem dX5_isAs_21 : decode cX5_isAs 21 = .ok (.iload_n 0, 1) := by decide +kernel
theorem dX5_isAs_22 : decode cX5_isAs 22 = .ok (.bipush 48, 2) := by decide +kernel
theorem dX5_isAs_24 : decode cX5_isAs 24 = .ok (.if_icmp .ne 21, 3) := by decide +kernel
theorem dX5_isAs_27 : decode cX5_isAs 27 = .ok (.iload_n 1, 1) := by decide +kernel
theorem dX5_isAs_28 : decode cX5_isAs 28 = .ok (.bipush 48, 2) := by decide +kernel
theorem dX5_isAs_30 : decode cX5_isAs 30 = .ok (.if_icmp .lt 13, 3) := by decide +kernel
theorem dX5_isAs_33 : decode cX5_isAs 33 = .ok (.iload_n 1, 1) := by decide +kernel
theorem dX5_isAs_34 : decode cX5_isAs 34 = .ok (.bipush 57, 2) := by decide +kernel
theorem dX5_isAs_36 : decode cX5_isAs 36 = .ok (.if_icmp .gt 7, 3) := by decide +kernel
theorem dX5_isAs_39 : decode cX5_isAs 39 = .ok (.iconst 1, 1) := by decide +kernel
theorem dX5_isAs_40 : decode cX5_isAs 40 = .ok (.goto 4, 3) := by decide +kernel
theorem dX5_isAs_43 : decode cX5_isAs 43 = .ok (.iconst 0, 1) := by decide +kernel
theorem dX5_isAs_44 : decode cX5_isAs 44 = .ok (.ireturn, 1) := by decide +kernel
theorem dX5_isAs_45 : decode cX5_isAs 45 = .ok (.iload_n 1, 1) := by decide +kernel
theorem dX5_isAs_46 : decode cX5_isAs 46 = .ok (.iload_n 0, 1) := by decide +kernel
theorem dX5_isAs_47 : decode cX5_isAs 47 = .ok (.if_icmp .ne 7, 3) := by decide +kernel
theorem dX5_isAs_50 : decode cX5_isAs 50 = .ok (.iconst 1, 1) := by decide +kernel
theorem dX5_isAs_51 : decode cX5_isAs 51 = .ok (.goto 4, 3) := by decide +kernel
theorem dX5_isAs_54 : decode cX5_isAs 54 = .ok (.iconst 0, 1) := by decide +kernel
theorem dX5_isAs_55 : decode cX5_isAs 55 = .ok (.ireturn, 1) := by decide +kernel
theorem dX5_number_0 : decode cX5_number 0 = .ok (.iconst 0, 1) := by decide +kernel
theorem dX5_number_1 : decode cX5_number 1 = .ok (.istore_n 3, 1) := by decide +kernel
theorem dX5_number_2 : decode cX5_number 2 = .ok (.iload_n 1, 1) := by decide +kernel
theorem dX5_number_3 : decode cX5_number 3 = .ok (.istore 4, 2) := by decide +kernel
theorem dX5_number_5 : decode cX5_number 5 = .ok (.iload 4, 2) := by decide +kernel
theorem dX5_number_7 : decode cX5_number 7 = .ok (.iload_n 1, 1) := by decide +kernel
theorem dX5_number_8 : decode cX5_number 8 = .ok (.iload_n 2, 1) := by decide +kernel
theorem dX5_number_9 : decode cX5_number 9 = .ok (.iadd, 1) := by decide +kernel
theorem dX5_number_10 : decode cX5_number 10 = .ok (.if_icmp .ge 34, 3) := by decide +kernel
theorem dX5_number_13 : decode cX5_number 13 = .ok (.iload 4, 2) := by decide +kernel
theorem dX5_number_15 : decode cX5_number 15 = .ok (.aload_n 0, 1) := by decide +kernel
theorem dX5_number_16 : decode cX5_number 16 = .ok (.getfield 15, 3) := by decide +kernel
theorem dX5_number_19 : decode cX5_number 19 = .ok (.if_icmp .ge 25, 3) := by decide +kernel
theorem dX5_number_22 : decode cX5_number 22 = .ok (.bipush 10, 2) := by decide +kernel
theorem dX5_number_24 : decode cX5_number 24 = .ok (.iload_n 3, 1) := by decide +kernel
theorem dX5_number_25 : decode cX5_number 25 = .ok (.imul, 1) := by decide +kernel
theorem dX5_number_26 : decode cX5_number 26 = .ok (.aload_n 0, 1) := by decide +kernel
theorem dX5_number_27 : decode cX5_number 27 = .ok (.getfield 9, 3) := by decide +kernel
theorem dX5_number_30 : decode cX5_number 30 = .ok (.iload 4, 2) := by decide +kernel
theorem dX5_number_32 : decode cX5_number 32 = .ok (.caload, 1) := by decide +kernel
theorem dX5_number_33 : decode cX5_number 33 = .ok (.iadd, 1) := by decide +kernel
theorem dX5_number_34 : decode cX5_number 34 = .ok (.bipush 48, 2) := by decide +kernel
theorem dX5_number_36 : decode cX5_number 36 = .ok (.isub, 1) := by decide +kernel
theorem dX5_number_37 : decode cX5_number 37 = .ok (.istore_n 3, 1) := by decide +kernel
theorem dX5_number_38 : decode cX5_number 38 = .ok (.iinc 4 1, 3) := by decide +kernel
theorem dX5_number_41 : decode cX5_number 41 = .ok (.goto (-36), 3) := by decide +kernel
theorem dX5_number_44 : decode cX5_number 44 = .ok (.iload_n 3, 1) := by decide +kernel
theorem dX5_number_45 : decode cX5_number 45 = .ok (.ireturn, 1) := by decide +kernel
theorem dX5_isObeyed_0 : decode cX5_isObeyed 0 = .ok (.iload_n 1, 1) := by decide +kernel
theorem dX5_isObeyed_1 : decode cX5_isObeyed 1 = .ok (.aload_n 0, 1) := by decide +kernel
theorem dX5_isObeyed_2 : decode cX5_isObeyed 2 = .ok (.getfield 15, 3) := by decide +kernel
theorem dX5_isObeyed_5 : decode cX5_isObeyed 5 = .ok (.if_icmp .ge 12, 3) := by decide +kernel
theorem dX5_isObeyed_8 : decode cX5_isObeyed 8 = .ok (.aload_n 0, 1) := by decide +kernel
theorem dX5_isObeyed_9 : decode cX5_isObeyed 9 = .ok (.getfield 9, 3) := by decide +kernel
theorem dX5_isObeyed_12 : decode cX5_isObeyed 12 = .ok (.iload_n 1, 1) := by decide +kernel
theorem dX5_isObeyed_13 : decode cX5_isObeyed 13 = .ok (.caload, 1) := by decide +kernel
theorem dX5_isObeyed_14 : decode cX5_isObeyed 14 = .ok (.goto 4, 3) := by decide +kernel
theorem dX5_isObeyed_17 : decode cX5_isObeyed 17 = .ok (.iconst 0, 1) := by decide +kernel
theorem dX5_isObeyed_18 : decode cX5_isObeyed 18 = .ok (.lookupswitch 85 #[(100, 78), (111, 57), (116, 64), (119, 50), (120, 71)], 50) := by decide +kernel
theorem dX5_isObeyed_68 : decode cX5_isObeyed 68 = .ok (.aload_n 0, 1) := by decide +kernel
theorem dX5_isObeyed_69 : decode cX5_isObeyed 69 = .ok (.iload_n 1, 1) := by decide +kernel
theorem dX5_isObeyed_70 : decode cX5_isObeyed 70 = .ok (.aload_n 2, 1) := by decide +kernel
theorem dX5_isObeyed_71 : decode cX5_isObeyed 71 = .ok (.invokevirtual 58, 3) := by decide +kernel
theorem dX5_isObeyed_74 : decode cX5_isObeyed 74 = .ok (.ireturn, 1) := by decide +kernel
theorem dX5_isObeyed_75 : decode cX5_isObeyed 75 = .ok (.aload_n 0, 1) := by decide +kernel
theorem dX5_isObeyed_76 : decode cX5_isObeyed 76 = .ok (.iload_n 1, 1) := by decide +kernel
theorem dX5_isObeyed_77 : decode cX5_isObeyed 77 = .ok (.aload_n 2, 1) := by decide +kernel
theorem dX5_isObeyed_78 : decode cX5_isObeyed 78 = .ok (.invokevirtual 62, 3) := by decide +kernel
theorem dX5_isObeyed_81 : decode cX5_isObeyed 81 = .ok (.ireturn, 1) := by decide +kernel
theorem dX5_isObeyed_82 : decode cX5_isObeyed 82 = .ok (.aload_n 0, 1) := by decide +kernel
theorem dX5_isObeyed_83 : decode cX5_isObeyed 83 = .ok (.iload_n 1, 1) := by decide +kernel
theorem dX5_isObeyed_84 : decode cX5_isObeyed 84 = .ok (.aload_n 2, 1) := by decide +kernel
theorem dX5_isObeyed_85 : decode cX5_isObeyed 85 = .ok (.invokevirtual 65, 3) := by decide +kernel
theorem dX5_isObeyed_88 : decode cX5_isObeyed 88 = .ok (.ireturn, 1) := by decide +kernel
theorem dX5_isObeyed_89 : decode cX5_isObeyed 89 = .ok (.aload_n 0, 1) := by decide +kernel
theorem dX5_isObeyed_90 : decode cX5_isObeyed 90 = .ok (.iload_n 1, 1) := by decide +kernel
theorem dX5_isObeyed_91 : decode cX5_isObeyed 91 = .ok (.aload_n 2, 1) := by decide +kernel
theorem dX5_isObeyed_92 : decode cX5_isObeyed 92 = .ok (.invokevirtual 68, 3) := by decide +kernel
theorem dX5_isObeyed_95 : decode cX5_isObeyed 95 = .ok (.ireturn, 1) := by decide +kernel
theorem dX5_isObeyed_96 : decode cX5_isObeyed 96 = .ok (.aload_n 0, 1) := by decide +kernel
theorem dX5_isObeyed_97 : decode cX5_isObeyed 97 = .ok (.iload_n 1, 1) := by decide +kernel
theorem dX5_isObeyed_98 : decode cX5_isObeyed 98 = .ok (.aload_n 2, 1) := by decide +kernel
theorem dX5_isObeyed_99 : decode cX5_isObeyed 99 = .ok (.invokevirtual 71, 3) := by decide +kernel
theorem dX5_isObeyed_102 : decode cX5_isObeyed 102 = .ok (.ireturn, 1) := by decide +kernel
theorem dX5_isObeyed_103 : decode cX5_isObeyed 103 = .ok (.iconst 0, 1) := by decide +kernel
theorem dX5_isObeyed_104 : decode cX5_isObeyed 104 = .ok (.ireturn, 1) := by decide +kernel
theorem dX5_hires_0 : decode cX5_hires 0 = .ok (.iload_n 1, 1) := by decide +kernel
theorem dX5_hires_1 : decode cX5_hires 1 = .ok (.iconst 1, 1) := by decide +kernel
theorem dX5_hires_2 : decode cX5_hires 2 = .ok (.iadd, 1) := by decide +kernel
theorem dX5_hires_3 : decode cX5_hires 3 = .ok (.aload_n 0, 1) := by decide +kernel
theorem dX5_hires_4 : decode cX5_hires 4 = .ok (.getfield 15, 3) := by decide +kernel
theorem dX5_hires_7 : decode cX5_hires 7 = .ok (.if_icmp .ge 19, 3) := by decide +kernel
theorem dX5_hires_10 : decode cX5_hires 10 = .ok (.ldc 52, 2) := by decide +kernel
theorem dX5_hires_12 : decode cX5_hires 12 = .ok (.aload_n 0, 1) := by decide +kernel
theorem dX5_hires_13 : decode cX5_hires 13 = .ok (.getfield 9, 3) := by decide +kernel
theorem dX5_hires_16 : decode cX5_hires 16 = .ok (.iload_n 1, 1) := by decide +kernel
theorem dX5_hires_17 : decode cX5_hires 17 = .ok (.iconst 1, 1) := by decide +kernel
theorem dX5_hires_18 : decode cX5_hires 18 = .ok (.iadd, 1) := by decide +kernel
theorem dX5_hires_19 : decode cX5_hires 19 = .ok (.caload, 1) := by decide +kernel
theorem dX5_hires_20 : decode cX5_hires 20 = .ok (.invokevirtual 54, 3) := by decide +kernel
theorem dX5_hires_23 : decode cX5_hires 23 = .ok (.goto 5, 3) := by decide +kernel
theorem dX5_hires_26 : decode cX5_hires 26 = .ok (.bipush (-9), 2) := by decide +kernel
theorem dX5_hires_28 : decode cX5_hires 28 = .ok (.istore_n 3, 1) := by decide +kernel
theorem dX5_hires_29 : decode cX5_hires 29 = .ok (.aload_n 0, 1) := by decide +kernel
theorem dX5_hires_30 : decode cX5_hires 30 = .ok (.iload_n 1, 1) := by decide +kernel
theorem dX5_hires_31 : decode cX5_hires 31 = .ok (.iconst 2, 1) := by decide +kernel
theorem dX5_hires_32 : decode cX5_hires 32 = .ok (.iadd, 1) := by decide +kernel
theorem dX5_hires_33 : decode cX5_hires 33 = .ok (.iconst 1, 1) := by decide +kernel
theorem dX5_hires_34 : decode cX5_hires 34 = .ok (.invokevirtual 74, 3) := by decide +kernel
theorem dX5_hires_37 : decode cX5_hires 37 = .ok (.istore 4, 2) := by decide +kernel
theorem dX5_hires_39 : decode cX5_hires 39 = .ok (.aload_n 0, 1) := by decide +kernel
theorem dX5_hires_40 : decode cX5_hires 40 = .ok (.iload_n 1, 1) := by decide +kernel
theorem dX5_hires_41 : decode cX5_hires 41 = .ok (.iconst 3, 1) := by decide +kernel
theorem dX5_hires_42 : decode cX5_hires 42 = .ok (.iadd, 1) := by decide +kernel
theorem dX5_hires_43 : decode cX5_hires 43 = .ok (.iconst 3, 1) := by decide +kernel
theorem dX5_hires_44 : decode cX5_hires 44 = .ok (.invokevirtual 74, 3) := by decide +kernel
theorem dX5_hires_47 : decode cX5_hires 47 = .ok (.istore 5, 2) := by decide +kernel
theorem dX5_hires_49 : decode cX5_hires 49 = .ok (.iload_n 3, 1) := by decide +kernel
theorem dX5_hires_50 : decode cX5_hires 50 = .ok (.ifCond .lt 17, 3) := by decide +kernel
theorem dX5_hires_53 : decode cX5_hires 53 = .ok (.iload 5, 2) := by decide +kernel
theorem dX5_hires_55 : decode cX5_hires 55 = .ok (.bipush 127, 2) := by decide +kernel
theorem dX5_hires_57 : decode cX5_hires 57 = .ok (.if_icmp .gt 10, 3) := by decide +kernel
theorem dX5_hires_60 : decode cX5_hires 60 = .ok (.aload_n 2, 1) := by decide +kernel
theorem dX5_hires_61 : decode cX5_hires 61 = .ok (.invokevirtual 78, 3) := by decide +kernel
theorem dX5_hires_64 : decode cX5_hires 64 = .ok (.ifCond .ne 5, 3) := by decide +kernel
theorem dX5_hires_67 : decode cX5_hires 67 = .ok (.iconst 0, 1) := by decide +kernel
theorem dX5_hires_68 : decode cX5_hires 68 = .ok (.ireturn, 1) := by decide +kernel
theorem dX5_hires_69 : decode cX5_hires 69 = .ok (.aload_n 2, 1) := by decide +kernel
theorem dX5_hires_70 : decode cX5_hires 70 = .ok (.iload_n 3, 1) := by decide +kernel
theorem dX5_hires_71 : decode cX5_hires 71 = .ok (.iload 4, 2) := by decide +kernel
theorem dX5_hires_73 : decode cX5_hires 73 = .ok (.iload 5, 2) := by decide +kernel
theorem dX5_hires_75 : decode cX5_hires 75 = .ok (.invokevirtual 83, 3) := by decide +kernel
theorem dX5_hires_78 : decode cX5_hires 78 = .ok (.iconst 1, 1) := by decide +kernel
theorem dX5_hires_79 : decode cX5_hires 79 = .ok (.ireturn, 1) := by decide +kernel
theorem dX5_changesOff_0 : decode cX5_changesOff 0 = .ok (.aload_n 0, 1) := by decide +kernel
theorem dX5_changesOff_1 : decode cX5_changesOff 1 = .ok (.iload_n 1, 1) := by decide +kernel
theorem dX5_changesOff_2 : decode cX5_changesOff 2 = .ok (.iconst 1, 1) := by decide +kernel
theorem dX5_changesOff_3 : decode cX5_changesOff 3 = .ok (.iadd, 1) := by decide +kernel
theorem dX5_changesOff_4 : decode cX5_changesOff 4 = .ok (.iconst 1, 1) := by decide +kernel
theorem dX5_changesOff_5 : decode cX5_changesOff 5 = .ok (.invokevirtual 74, 3) := by decide +kernel
theorem dX5_changesOff_8 : decode cX5_changesOff 8 = .ok (.istore_n 3, 1) := by decide +kernel
theorem dX5_changesOff_9 : decode cX5_changesOff 9 = .ok (.aload_n 0, 1) := by decide +kernel
theorem dX5_changesOff_10 : decode cX5_changesOff 10 = .ok (.iload_n 1, 1) := by decide +kernel
theorem dX5_changesOff_11 : decode cX5_changesOff 11 = .ok (.iconst 2, 1) := by decide +kernel
theorem dX5_changesOff_12 : decode cX5_changesOff 12 = .ok (.iadd, 1) := by decide +kernel
theorem dX5_changesOff_13 : decode cX5_changesOff 13 = .ok (.iconst 1, 1) := by decide +kernel
theorem dX5_changesOff_14 : decode cX5_changesOff 14 = .ok (.invokevirtual 74, 3) := by decide +kernel
theorem dX5_changesOff_17 : decode cX5_changesOff 17 = .ok (.istore 4, 2) := by decide +kernel
theorem dX5_changesOff_19 : decode cX5_changesOff 19 = .ok (.aload_n 2, 1) := by decide +kernel
theorem dX5_changesOff_20 : decode cX5_changesOff 20 = .ok (.iload_n 3, 1) := by decide +kernel
theorem dX5_changesOff_21 : decode cX5_changesOff 21 = .ok (.invokevirtual 87, 3) := by decide +kernel
theorem dX5_changesOff_24 : decode cX5_changesOff 24 = .ok (.ifCond .eq 11, 3) := by decide +kernel
theorem dX5_changesOff_27 : decode cX5_changesOff 27 = .ok (.iload 4, 2) := by decide +kernel
theorem dX5_changesOff_29 : decode cX5_changesOff 29 = .ok (.invokestatic 91, 3) := by decide +kernel
theorem dX5_changesOff_32 : decode cX5_changesOff 32 = .ok (.ifCond .ne 5, 3) := by decide +kernel
theorem dX5_changesOff_35 : decode cX5_changesOff 35 = .ok (.iconst 0, 1) := by decide +kernel
theorem dX5_changesOff_36 : decode cX5_changesOff 36 = .ok (.ireturn, 1) := by decide +kernel
theorem dX5_changesOff_37 : decode cX5_changesOff 37 = .ok (.aload_n 2, 1) := by decide +kernel
theorem dX5_changesOff_38 : decode cX5_changesOff 38 = .ok (.iload_n 3, 1) := by decide +kernel
theorem dX5_changesOff_39 : decode cX5_changesOff 39 = .ok (.iload 4, 2) := by decide +kernel
theorem dX5_changesOff_41 : decode cX5_changesOff 41 = .ok (.invokevirtual 94, 3) := by decide +kernel
theorem dX5_changesOff_44 : decode cX5_changesOff 44 = .ok (.iconst 1, 1) := by decide +kernel
theorem dX5_changesOff_45 : decode cX5_changesOff 45 = .ok (.ireturn, 1) := by decide +kernel
theorem dX5_setsTired_0 : decode cX5_setsTired 0 = .ok (.aload_n 0, 1) := by decide +kernel
theorem dX5_setsTired_1 : decode cX5_setsTired 1 = .ok (.iload_n 1, 1) := by decide +kernel
theorem dX5_setsTired_2 : decode cX5_setsTired 2 = .ok (.iconst 1, 1) := by decide +kernel
theorem dX5_setsTired_3 : decode cX5_setsTired 3 = .ok (.iadd, 1) := by decide +kernel
theorem dX5_setsTired_4 : decode cX5_setsTired 4 = .ok (.iconst 1, 1) := by decide +kernel
theorem dX5_setsTired_5 : decode cX5_setsTired 5 = .ok (.invokevirtual 74, 3) := by decide +kernel
theorem dX5_setsTired_8 : decode cX5_setsTired 8 = .ok (.istore_n 3, 1) := by decide +kernel
theorem dX5_setsTired_9 : decode cX5_setsTired 9 = .ok (.aload_n 0, 1) := by decide +kernel
theorem dX5_setsTired_10 : decode cX5_setsTired 10 = .ok (.iload_n 1, 1) := by decide +kernel
theorem dX5_setsTired_11 : decode cX5_setsTired 11 = .ok (.iconst 2, 1) := by decide +kernel
theorem dX5_setsTired_12 : decode cX5_setsTired 12 = .ok (.iadd, 1) := by decide +kernel
theorem dX5_setsTired_13 : decode cX5_setsTired 13 = .ok (.iconst 2, 1) := by decide +kernel
theorem dX5_setsTired_14 : decode cX5_setsTired 14 = .ok (.invokevirtual 74, 3) := by decide +kernel
theorem dX5_setsTired_17 : decode cX5_setsTired 17 = .ok (.istore 4, 2) := by decide +kernel
theorem dX5_setsTired_19 : decode cX5_setsTired 19 = .ok (.aload_n 2, 1) := by decide +kernel
theorem dX5_setsTired_20 : decode cX5_setsTired 20 = .ok (.iload_n 3, 1) := by decide +kernel
theorem dX5_setsTired_21 : decode cX5_setsTired 21 = .ok (.invokevirtual 87, 3) := by decide +kernel
theorem dX5_setsTired_24 : decode cX5_setsTired 24 = .ok (.ifCond .eq 10, 3) := by decide +kernel
theorem dX5_setsTired_27 : decode cX5_setsTired 27 = .ok (.iload 4, 2) := by decide +kernel
theorem dX5_setsTired_29 : decode cX5_setsTired 29 = .ok (.bipush 30, 2) := by decide +kernel
theorem dX5_setsTired_31 : decode cX5_setsTired 31 = .ok (.if_icmp .le 5, 3) := by decide +kernel
theorem dX5_setsTired_34 : decode cX5_setsTired 34 = .ok (.iconst 0, 1) := by decide +kernel
theorem dX5_setsTired_35 : decode cX5_setsTired 35 = .ok (.ireturn, 1) := by decide +kernel
theorem dX5_setsTired_36 : decode cX5_setsTired 36 = .ok (.aload_n 2, 1) := by decide +kernel
theorem dX5_setsTired_37 : decode cX5_setsTired 37 = .ok (.getfield 98, 3) := by decide +kernel
theorem dX5_setsTired_40 : decode cX5_setsTired 40 = .ok (.iload_n 3, 1) := by decide +kernel
theorem dX5_setsTired_41 : decode cX5_setsTired 41 = .ok (.iload 4, 2) := by decide +kernel
theorem dX5_setsTired_43 : decode cX5_setsTired 43 = .ok (.iastore, 1) := by decide +kernel
theorem dX5_setsTired_44 : decode cX5_setsTired 44 = .ok (.iconst 1, 1) := by decide +kernel
theorem dX5_setsTired_45 : decode cX5_setsTired 45 = .ok (.ireturn, 1) := by decide +kernel
theorem dX5_handsOver_0 : decode cX5_handsOver 0 = .ok (.aload_n 0, 1) := by decide +kernel
theorem dX5_handsOver_1 : decode cX5_handsOver 1 = .ok (.iload_n 1, 1) := by decide +kernel
theorem dX5_handsOver_2 : decode cX5_handsOver 2 = .ok (.iconst 1, 1) := by decide +kernel
theorem dX5_handsOver_3 : decode cX5_handsOver 3 = .ok (.iadd, 1) := by decide +kernel
theorem dX5_handsOver_4 : decode cX5_handsOver 4 = .ok (.iconst 1, 1) := by decide +kernel
theorem dX5_handsOver_5 : decode cX5_handsOver 5 = .ok (.invokevirtual 74, 3) := by decide +kernel
theorem dX5_handsOver_8 : decode cX5_handsOver 8 = .ok (.istore_n 3, 1) := by decide +kernel
theorem dX5_handsOver_9 : decode cX5_handsOver 9 = .ok (.aload_n 0, 1) := by decide +kernel
theorem dX5_handsOver_10 : decode cX5_handsOver 10 = .ok (.iload_n 1, 1) := by decide +kernel
theorem dX5_handsOver_11 : decode cX5_handsOver 11 = .ok (.iconst 2, 1) := by decide +kernel
theorem dX5_handsOver_12 : decode cX5_handsOver 12 = .ok (.iadd, 1) := by decide +kernel
theorem dX5_handsOver_13 : decode cX5_handsOver 13 = .ok (.iconst 1, 1) := by decide +kernel
theorem dX5_handsOver_14 : decode cX5_handsOver 14 = .ok (.invokevirtual 74, 3) := by decide +kernel
theorem dX5_handsOver_17 : decode cX5_handsOver 17 = .ok (.istore 4, 2) := by decide +kernel
theorem dX5_handsOver_19 : decode cX5_handsOver 19 = .ok (.aload_n 0, 1) := by decide +kernel
theorem dX5_handsOver_20 : decode cX5_handsOver 20 = .ok (.iload_n 1, 1) := by decide +kernel
theorem dX5_handsOver_21 : decode cX5_handsOver 21 = .ok (.iconst 3, 1) := by decide +kernel
theorem dX5_handsOver_22 : decode cX5_handsOver 22 = .ok (.iadd, 1) := by decide +kernel
theorem dX5_handsOver_23 : decode cX5_handsOver 23 = .ok (.iconst 1, 1) := by decide +kernel
theorem dX5_handsOver_24 : decode cX5_handsOver 24 = .ok (.invokevirtual 74, 3) := by decide +kernel
theorem dX5_handsOver_27 : decode cX5_handsOver 27 = .ok (.istore 5, 2) := by decide +kernel
theorem dX5_handsOver_29 : decode cX5_handsOver 29 = .ok (.aload_n 2, 1) := by decide +kernel
theorem dX5_handsOver_30 : decode cX5_handsOver 30 = .ok (.iload_n 3, 1) := by decide +kernel
theorem dX5_handsOver_31 : decode cX5_handsOver 31 = .ok (.invokevirtual 87, 3) := by decide +kernel
theorem dX5_handsOver_34 : decode cX5_handsOver 34 = .ok (.ifCond .eq 26, 3) := by decide +kernel
theorem dX5_handsOver_37 : decode cX5_handsOver 37 = .ok (.aload_n 2, 1) := by decide +kernel
theorem dX5_handsOver_38 : decode cX5_handsOver 38 = .ok (.iload 4, 2) := by decide +kernel
theorem dX5_handsOver_40 : decode cX5_handsOver 40 = .ok (.invokevirtual 87, 3) := by decide +kernel
theorem dX5_handsOver_43 : decode cX5_handsOver 43 = .ok (.ifCond .eq 17, 3) := by decide +kernel
theorem dX5_handsOver_46 : decode cX5_handsOver 46 = .ok (.iload_n 3, 1) := by decide +kernel
theorem dX5_handsOver_47 : decode cX5_handsOver 47 = .ok (.iload 4, 2) := by decide +kernel
theorem dX5_handsOver_49 : decode cX5_handsOver 49 = .ok (.if_icmp .eq 11, 3) := by decide +kernel
theorem dX5_handsOver_52 : decode cX5_handsOver 52 = .ok (.iload 5, 2) := by decide +kernel
theorem dX5_handsOver_54 : decode cX5_handsOver 54 = .ok (.invokestatic 91, 3) := by decide +kernel
theorem dX5_handsOver_57 : decode cX5_handsOver 57 = .ok (.ifCond .ne 5, 3) := by decide +kernel
theorem dX5_handsOver_60 : decode cX5_handsOver 60 = .ok (.iconst 0, 1) := by decide +kernel
theorem dX5_handsOver_61 : decode cX5_handsOver 61 = .ok (.ireturn, 1) := by decide +kernel
theorem dX5_handsOver_62 : decode cX5_handsOver 62 = .ok (.aload_n 2, 1) := by decide +kernel
theorem dX5_handsOver_63 : decode cX5_handsOver 63 = .ok (.iload_n 3, 1) := by decide +kernel
theorem dX5_handsOver_64 : decode cX5_handsOver 64 = .ok (.iload 4, 2) := by decide +kernel
theorem dX5_handsOver_66 : decode cX5_handsOver 66 = .ok (.iload 5, 2) := by decide +kernel
theorem dX5_handsOver_68 : decode cX5_handsOver 68 = .ok (.invokevirtual 102, 3) := by decide +kernel
theorem dX5_handsOver_71 : decode cX5_handsOver 71 = .ok (.ifCond .ne 5, 3) := by decide +kernel
theorem dX5_handsOver_74 : decode cX5_handsOver 74 = .ok (.iconst 0, 1) := by decide +kernel
theorem dX5_handsOver_75 : decode cX5_handsOver 75 = .ok (.ireturn, 1) := by decide +kernel
theorem dX5_handsOver_76 : decode cX5_handsOver 76 = .ok (.aload_n 2, 1) := by decide +kernel
theorem dX5_handsOver_77 : decode cX5_handsOver 77 = .ok (.iload_n 3, 1) := by decide +kernel
theorem dX5_handsOver_78 : decode cX5_handsOver 78 = .ok (.iload 4, 2) := by decide +kernel
theorem dX5_handsOver_80 : decode cX5_handsOver 80 = .ok (.iload 5, 2) := by decide +kernel
theorem dX5_handsOver_82 : decode cX5_handsOver 82 = .ok (.invokevirtual 106, 3) := by decide +kernel
theorem dX5_handsOver_85 : decode cX5_handsOver 85 = .ok (.iconst 1, 1) := by decide +kernel
theorem dX5_handsOver_86 : decode cX5_handsOver 86 = .ok (.ireturn, 1) := by decide +kernel
theorem dX5_letsPass_0 : decode cX5_letsPass 0 = .ok (.aload_n 0, 1) := by decide +kernel
theorem dX5_letsPass_1 : decode cX5_letsPass 1 = .ok (.iload_n 1, 1) := by decide +kernel
theorem dX5_letsPass_2 : decode cX5_letsPass 2 = .ok (.iconst 1, 1) := by decide +kernel
theorem dX5_letsPass_3 : decode cX5_letsPass 3 = .ok (.iadd, 1) := by decide +kernel
theorem dX5_letsPass_4 : decode cX5_letsPass 4 = .ok (.iconst 2, 1) := by decide +kernel
theorem dX5_letsPass_5 : decode cX5_letsPass 5 = .ok (.invokevirtual 74, 3) := by decide +kernel
theorem dX5_letsPass_8 : decode cX5_letsPass 8 = .ok (.istore_n 3, 1) := by decide +kernel
theorem dX5_letsPass_9 : decode cX5_letsPass 9 = .ok (.iload_n 3, 1) := by decide +kernel
theorem dX5_letsPass_10 : decode cX5_letsPass 10 = .ok (.iconst 1, 1) := by decide +kernel
theorem dX5_letsPass_11 : decode cX5_letsPass 11 = .ok (.if_icmp .lt 21, 3) := by decide +kernel
theorem dX5_letsPass_14 : decode cX5_letsPass 14 = .ok (.iload_n 3, 1) := by decide +kernel
theorem dX5_letsPass_15 : decode cX5_letsPass 15 = .ok (.bipush 60, 2) := by decide +kernel
theorem dX5_letsPass_17 : decode cX5_letsPass 17 = .ok (.if_icmp .gt 15, 3) := by decide +kernel
theorem dX5_letsPass_20 : decode cX5_letsPass 20 = .ok (.aload_n 2, 1) := by decide +kernel
theorem dX5_letsPass_21 : decode cX5_letsPass 21 = .ok (.getfield 109, 3) := by decide +kernel
theorem dX5_letsPass_24 : decode cX5_letsPass 24 = .ok (.iload_n 3, 1) := by decide +kernel
theorem dX5_letsPass_25 : decode cX5_letsPass 25 = .ok (.iadd, 1) := by decide +kernel
theorem dX5_letsPass_26 : decode cX5_letsPass 26 = .ok (.sipush 999, 3) := by decide +kernel
theorem dX5_letsPass_29 : decode cX5_letsPass 29 = .ok (.if_icmp .le 5, 3) := by decide +kernel
theorem dX5_letsPass_32 : decode cX5_letsPass 32 = .ok (.iconst 0, 1) := by decide +kernel
theorem dX5_letsPass_33 : decode cX5_letsPass 33 = .ok (.ireturn, 1) := by decide +kernel
theorem dX5_letsPass_34 : decode cX5_letsPass 34 = .ok (.aload_n 2, 1) := by decide +kernel
theorem dX5_letsPass_35 : decode cX5_letsPass 35 = .ok (.iload_n 3, 1) := by decide +kernel
theorem dX5_letsPass_36 : decode cX5_letsPass 36 = .ok (.iconst 0, 1) := by decide +kernel
theorem dX5_letsPass_37 : decode cX5_letsPass 37 = .ok (.invokevirtual 112, 3) := by decide +kernel
theorem dX5_letsPass_40 : decode cX5_letsPass 40 = .ok (.pop, 1) := by decide +kernel
theorem dX5_letsPass_41 : decode cX5_letsPass 41 = .ok (.iconst 1, 1) := by decide +kernel
theorem dX5_letsPass_42 : decode cX5_letsPass 42 = .ok (.ireturn, 1) := by decide +kernel
theorem dX6_init_0 : decode cX6_init 0 = .ok (.aload_n 0, 1) := by decide +kernel
theorem dX6_init_1 : decode cX6_init 1 = .ok (.invokespecial 1, 3) := by decide +kernel
theorem dX6_init_4 : decode cX6_init 4 = .ok (.return_, 1) := by decide +kernel
theorem dX6_chooseWeekday_0 : decode cX6_chooseWeekday 0 = .ok (.bipush 31, 2) := by decide +kernel
theorem dX6_chooseWeekday_2 : decode cX6_chooseWeekday 2 = .ok (.iload_n 1, 1) := by decide +kernel
theorem dX6_chooseWeekday_3 : decode cX6_chooseWeekday 3 = .ok (.invokestatic 7, 3) := by decide +kernel
theorem dX6_chooseWeekday_6 : decode cX6_chooseWeekday 6 = .ok (.isub, 1) := by decide +kernel
theorem dX6_chooseWeekday_7 : decode cX6_chooseWeekday 7 = .ok (.ireturn, 1) := by decide +kernel
theorem dX7_init_0 : decode cX7_init 0 = .ok (.aload_n 0, 1) := by decide +kernel
theorem dX7_init_1 : decode cX7_init 1 = .ok (.invokespecial 3, 3) := by decide +kernel
theorem dX7_init_4 : decode cX7_init 4 = .ok (.return_, 1) := by decide +kernel
theorem dX7_dueAfter_0 : decode cX7_dueAfter 0 = .ok (.iload_n 1, 1) := by decide +kernel
theorem dX7_dueAfter_1 : decode cX7_dueAfter 1 = .ok (.iconst 3, 1) := by decide +kernel
theorem dX7_dueAfter_2 : decode cX7_dueAfter 2 = .ok (.idiv, 1) := by decide +kernel
theorem dX7_dueAfter_3 : decode cX7_dueAfter 3 = .ok (.iconst 1, 1) := by decide +kernel
theorem dX7_dueAfter_4 : decode cX7_dueAfter 4 = .ok (.iadd, 1) := by decide +kernel
theorem dX7_dueAfter_5 : decode cX7_dueAfter 5 = .ok (.ireturn, 1) := by decide +kernel
theorem dX7_choosePayer_0 : decode cX7_choosePayer 0 = .ok (.iconst 1, 1) := by decide +kernel
theorem dX7_choosePayer_1 : decode cX7_choosePayer 1 = .ok (.istore_n 3, 1) := by decide +kernel
theorem dX7_choosePayer_2 : decode cX7_choosePayer 2 = .ok (.iload_n 3, 1) := by decide +kernel
theorem dX7_choosePayer_3 : decode cX7_choosePayer 3 = .ok (.aload_n 1, 1) := by decide +kernel
theorem dX7_choosePayer_4 : decode cX7_choosePayer 4 = .ok (.getfield 9, 3) := by decide +kernel
theorem dX7_choosePayer_7 : decode cX7_choosePayer 7 = .ok (.if_icmp .ge 32, 3) := by decide +kernel
theorem dX7_choosePayer_10 : decode cX7_choosePayer 10 = .ok (.iload_n 2, 1) := by decide +kernel
theorem dX7_choosePayer_11 : decode cX7_choosePayer 11 = .ok (.iload_n 3, 1) := by decide +kernel
theorem dX7_choosePayer_12 : decode cX7_choosePayer 12 = .ok (.iadd, 1) := by decide +kernel
theorem dX7_choosePayer_13 : decode cX7_choosePayer 13 = .ok (.aload_n 1, 1) := by decide +kernel
theorem dX7_choosePayer_14 : decode cX7_choosePayer 14 = .ok (.getfield 9, 3) := by decide +kernel
theorem dX7_choosePayer_17 : decode cX7_choosePayer 17 = .ok (.irem, 1) := by decide +kernel
theorem dX7_choosePayer_18 : decode cX7_choosePayer 18 = .ok (.istore 4, 2) := by decide +kernel
theorem dX7_choosePayer_20 : decode cX7_choosePayer 20 = .ok (.aload_n 1, 1) := by decide +kernel
theorem dX7_choosePayer_21 : decode cX7_choosePayer 21 = .ok (.iload 4, 2) := by decide +kernel
theorem dX7_choosePayer_23 : decode cX7_choosePayer 23 = .ok (.iload_n 2, 1) := by decide +kernel
theorem dX7_choosePayer_24 : decode cX7_choosePayer 24 = .ok (.invokevirtual 15, 3) := by decide +kernel
theorem dX7_choosePayer_27 : decode cX7_choosePayer 27 = .ok (.ifCond .eq 6, 3) := by decide +kernel
theorem dX7_choosePayer_30 : decode cX7_choosePayer 30 = .ok (.iload 4, 2) := by decide +kernel
theorem dX7_choosePayer_32 : decode cX7_choosePayer 32 = .ok (.ireturn, 1) := by decide +kernel
theorem dX7_choosePayer_33 : decode cX7_choosePayer 33 = .ok (.iinc 3 1, 3) := by decide +kernel
theorem dX7_choosePayer_36 : decode cX7_choosePayer 36 = .ok (.goto (-34), 3) := by decide +kernel
theorem dX7_choosePayer_39 : decode cX7_choosePayer 39 = .ok (.bipush (-9), 2) := by decide +kernel
theorem dX7_choosePayer_41 : decode cX7_choosePayer 41 = .ok (.ireturn, 1) := by decide +kernel
theorem dX7_chooseWeekday_0 : decode cX7_chooseWeekday 0 = .ok (.iload_n 1, 1) := by decide +kernel
theorem dX7_chooseWeekday_1 : decode cX7_chooseWeekday 1 = .ok (.invokestatic 19, 3) := by decide +kernel
theorem dX7_chooseWeekday_4 : decode cX7_chooseWeekday 4 = .ok (.ireturn, 1) := by decide +kernel
theorem dX8_init_0 : decode cX8_init 0 = .ok (.aload_n 0, 1) := by decide +kernel
theorem dX8_init_1 : decode cX8_init 1 = .ok (.invokespecial 1, 3) := by decide +kernel
theorem dX8_init_4 : decode cX8_init 4 = .ok (.aload_n 0, 1) := by decide +kernel
theorem dX8_init_5 : decode cX8_init 5 = .ok (.new 7, 3) := by decide +kernel
theorem dX8_init_8 : decode cX8_init 8 = .ok (.dup, 1) := by decide +kernel
theorem dX8_init_9 : decode cX8_init 9 = .ok (.invokespecial 9, 3) := by decide +kernel
theorem dX8_init_12 : decode cX8_init 12 = .ok (.putfield 10, 3) := by decide +kernel
theorem dX8_init_15 : decode cX8_init 15 = .ok (.aload_n 0, 1) := by decide +kernel
theorem dX8_init_16 : decode cX8_init 16 = .ok (.new 7, 3) := by decide +kernel
theorem dX8_init_19 : decode cX8_init 19 = .ok (.dup, 1) := by decide +kernel
theorem dX8_init_20 : decode cX8_init 20 = .ok (.invokespecial 9, 3) := by decide +kernel
theorem dX8_init_23 : decode cX8_init 23 = .ok (.putfield 16, 3) := by decide +kernel
theorem dX8_init_26 : decode cX8_init 26 = .ok (.aload_n 0, 1) := by decide +kernel
theorem dX8_init_27 : decode cX8_init 27 = .ok (.new 7, 3) := by decide +kernel
theorem dX8_init_30 : decode cX8_init 30 = .ok (.dup, 1) := by decide +kernel
theorem dX8_init_31 : decode cX8_init 31 = .ok (.invokespecial 9, 3) := by decide +kernel
theorem dX8_init_34 : decode cX8_init 34 = .ok (.putfield 19, 3) := by decide +kernel
theorem dX8_init_37 : decode cX8_init 37 = .ok (.aload_n 0, 1) := by decide +kernel
theorem dX8_init_38 : decode cX8_init 38 = .ok (.iconst 0, 1) := by decide +kernel
theorem dX8_init_39 : decode cX8_init 39 = .ok (.putfield 22, 3) := by decide +kernel
theorem dX8_init_42 : decode cX8_init 42 = .ok (.aload_n 0, 1) := by decide +kernel
theorem dX8_init_43 : decode cX8_init 43 = .ok (.new 26, 3) := by decide +kernel
theorem dX8_init_46 : decode cX8_init 46 = .ok (.dup, 1) := by decide +kernel
theorem dX8_init_47 : decode cX8_init 47 = .ok (.invokespecial 28, 3) := by decide +kernel
theorem dX8_init_50 : decode cX8_init 50 = .ok (.putfield 29, 3) := by decide +kernel
theorem dX8_init_53 : decode cX8_init 53 = .ok (.aload_n 0, 1) := by decide +kernel
theorem dX8_init_54 : decode cX8_init 54 = .ok (.bipush 16, 2) := by decide +kernel
theorem dX8_init_56 : decode cX8_init 56 = .ok (.newarray .int, 2) := by decide +kernel
theorem dX8_init_58 : decode cX8_init 58 = .ok (.putfield 33, 3) := by decide +kernel
theorem dX8_init_61 : decode cX8_init 61 = .ok (.aload_n 0, 1) := by decide +kernel
theorem dX8_init_62 : decode cX8_init 62 = .ok (.iconst 0, 1) := by decide +kernel
theorem dX8_init_63 : decode cX8_init 63 = .ok (.putfield 37, 3) := by decide +kernel
theorem dX8_init_66 : decode cX8_init 66 = .ok (.aload_n 0, 1) := by decide +kernel
theorem dX8_init_67 : decode cX8_init 67 = .ok (.bipush 7, 2) := by decide +kernel
theorem dX8_init_69 : decode cX8_init 69 = .ok (.newarray .int, 2) := by decide +kernel
theorem dX8_init_71 : decode cX8_init 71 = .ok (.putfield 41, 3) := by decide +kernel
theorem dX8_init_74 : decode cX8_init 74 = .ok (.return_, 1) := by decide +kernel
theorem dX8_letter_0 : decode cX8_letter 0 = .ok (.iload_n 1, 1) := by decide +kernel
theorem dX8_letter_1 : decode cX8_letter 1 = .ok (.iconst 0, 1) := by decide +kernel
theorem dX8_letter_2 : decode cX8_letter 2 = .ok (.sipush 255, 3) := by decide +kernel
theorem dX8_letter_5 : decode cX8_letter 5 = .ok (.invokestatic 44, 3) := by decide +kernel
theorem dX8_letter_8 : decode cX8_letter 8 = .ok (.istore_n 2, 1) := by decide +kernel
theorem dX8_letter_9 : decode cX8_letter 9 = .ok (.iload_n 2, 1) := by decide +kernel
theorem dX8_letter_10 : decode cX8_letter 10 = .ok (.ifCond .ne 16, 3) := by decide +kernel
theorem dX8_letter_13 : decode cX8_letter 13 = .ok (.aload_n 0, 1) := by decide +kernel
theorem dX8_letter_14 : decode cX8_letter 14 = .ok (.getfield 29, 3) := by decide +kernel
theorem dX8_letter_17 : decode cX8_letter 17 = .ok (.invokevirtual 48, 3) := by decide +kernel
theorem dX8_letter_20 : decode cX8_letter 20 = .ok (.ifCond .eq 6, 3) := by decide +kernel
theorem dX8_letter_23 : decode cX8_letter 23 = .ok (.bipush (-6), 2) := by decide +kernel
theorem dX8_letter_25 : decode cX8_letter 25 = .ok (.istore_n 2, 1) := by decide +kernel
theorem dX8_letter_26 : decode cX8_letter 26 = .ok (.iload_n 2, 1) := by decide +kernel
theorem dX8_letter_27 : decode cX8_letter 27 = .ok (.ifCond .eq 9, 3) := by decide +kernel
theorem dX8_letter_30 : decode cX8_letter 30 = .ok (.aload_n 0, 1) := by decide +kernel
theorem dX8_letter_31 : decode cX8_letter 31 = .ok (.iload_n 2, 1) := by decide +kernel
theorem dX8_letter_32 : decode cX8_letter 32 = .ok (.invokevirtual 52, 3) := by decide +kernel
theorem dX8_letter_35 : decode cX8_letter 35 = .ok (.ireturn, 1) := by decide +kernel
theorem dX8_letter_36 : decode cX8_letter 36 = .ok (.aload_n 0, 1) := by decide +kernel
theorem dX8_letter_37 : decode cX8_letter 37 = .ok (.getfield 29, 3) := by decide +kernel
theorem dX8_letter_40 : decode cX8_letter 40 = .ok (.iload_n 1, 1) := by decide +kernel
theorem dX8_letter_41 : decode cX8_letter 41 = .ok (.i2c, 1) := by decide +kernel
theorem dX8_letter_42 : decode cX8_letter 42 = .ok (.invokevirtual 56, 3) := by decide +kernel
theorem dX8_letter_45 : decode cX8_letter 45 = .ok (.aload_n 0, 1) := by decide +kernel
theorem dX8_letter_46 : decode cX8_letter 46 = .ok (.getfield 29, 3) := by decide +kernel
theorem dX8_letter_49 : decode cX8_letter 49 = .ok (.getfield 60, 3) := by decide +kernel
theorem dX8_letter_52 : decode cX8_letter 52 = .ok (.ireturn, 1) := by decide +kernel
theorem dX8_works_0 : decode cX8_works 0 = .ok (.aload_n 0, 1) := by decide +kernel
theorem dX8_works_1 : decode cX8_works 1 = .ok (.getfield 16, 3) := by decide +kernel
theorem dX8_works_4 : decode cX8_works 4 = .ok (.aload_n 0, 1) := by decide +kernel
theorem dX8_works_5 : decode cX8_works 5 = .ok (.getfield 10, 3) := by decide +kernel
theorem dX8_works_8 : decode cX8_works 8 = .ok (.invokevirtual 63, 3) := by decide +kernel
theorem dX8_works_11 : decode cX8_works 11 = .ok (.aload_n 0, 1) := by decide +kernel
theorem dX8_works_12 : decode cX8_works 12 = .ok (.getfield 29, 3) := by decide +kernel
theorem dX8_works_15 : decode cX8_works 15 = .ok (.invokevirtual 67, 3) := by decide +kernel
theorem dX8_works_18 : decode cX8_works 18 = .ok (.istore_n 1, 1) := by decide +kernel
theorem dX8_works_19 : decode cX8_works 19 = .ok (.iload_n 1, 1) := by decide +kernel
theorem dX8_works_20 : decode cX8_works 20 = .ok (.bipush (-9), 2) := by decide +kernel
theorem dX8_works_22 : decode cX8_works 22 = .ok (.if_icmp .ne 7, 3) := by decide +kernel
theorem dX8_works_25 : decode cX8_works 25 = .ok (.iconst 0, 1) := by decide +kernel
theorem dX8_works_26 : decode cX8_works 26 = .ok (.goto 8, 3) := by decide +kernel
theorem dX8_works_29 : decode cX8_works 29 = .ok (.sipush (-1000), 3) := by decide +kernel
theorem dX8_works_32 : decode cX8_works 32 = .ok (.iload_n 1, 1) := by decide +kernel
theorem dX8_works_33 : decode cX8_works 33 = .ok (.isub, 1) := by decide +kernel
theorem dX8_works_34 : decode cX8_works 34 = .ok (.istore_n 2, 1) := by decide +kernel
theorem dX8_works_35 : decode cX8_works 35 = .ok (.iconst 0, 1) := by decide +kernel
theorem dX8_works_36 : decode cX8_works 36 = .ok (.istore_n 3, 1) := by decide +kernel
theorem dX8_works_37 : decode cX8_works 37 = .ok (.iload_n 2, 1) := by decide +kernel
theorem dX8_works_38 : decode cX8_works 38 = .ok (.ifCond .lt 60, 3) := by decide +kernel
theorem dX8_works_41 : decode cX8_works 41 = .ok (.iload_n 3, 1) := by decide +kernel
theorem dX8_works_42 : decode cX8_works 42 = .ok (.aload_n 0, 1) := by decide +kernel
theorem dX8_works_43 : decode cX8_works 43 = .ok (.getfield 29, 3) := by decide +kernel
theorem dX8_works_46 : decode cX8_works 46 = .ok (.getfield 60, 3) := by decide +kernel
theorem dX8_works_49 : decode cX8_works 49 = .ok (.if_icmp .ge 49, 3) := by decide +kernel
theorem dX8_works_52 : decode cX8_works 52 = .ok (.aload_n 0, 1) := by decide +kernel
theorem dX8_works_53 : decode cX8_works 53 = .ok (.getfield 29, 3) := by decide +kernel
theorem dX8_works_56 : decode cX8_works 56 = .ok (.iload_n 3, 1) := by decide +kernel
theorem dX8_works_57 : decode cX8_works 57 = .ok (.aload_n 0, 1) := by decide +kernel
theorem dX8_works_58 : decode cX8_works 58 = .ok (.getfield 16, 3) := by decide +kernel
theorem dX8_works_61 : decode cX8_works 61 = .ok (.invokevirtual 71, 3) := by decide +kernel
theorem dX8_works_64 : decode cX8_works 64 = .ok (.ifCond .eq 9, 3) := by decide +kernel
theorem dX8_works_67 : decode cX8_works 67 = .ok (.iload_n 2, 1) := by decide +kernel
theorem dX8_works_68 : decode cX8_works 68 = .ok (.iconst 1, 1) := by decide +kernel
theorem dX8_works_69 : decode cX8_works 69 = .ok (.iadd, 1) := by decide +kernel
theorem dX8_works_70 : decode cX8_works 70 = .ok (.goto 8, 3) := by decide +kernel
theorem dX8_works_73 : decode cX8_works 73 = .ok (.sipush (-2000), 3) := by decide +kernel
theorem dX8_works_76 : decode cX8_works 76 = .ok (.iload_n 3, 1) := by decide +kernel
theorem dX8_works_77 : decode cX8_works 77 = .ok (.isub, 1) := by decide +kernel
theorem dX8_works_78 : decode cX8_works 78 = .ok (.istore_n 2, 1) := by decide +kernel
theorem dX8_works_79 : decode cX8_works 79 = .ok (.iload_n 3, 1) := by decide +kernel
theorem dX8_works_80 : decode cX8_works 80 = .ok (.iconst 1, 1) := by decide +kernel
theorem dX8_works_81 : decode cX8_works 81 = .ok (.aload_n 0, 1) := by decide +kernel
theorem dX8_works_82 : decode cX8_works 82 = .ok (.getfield 29, 3) := by decide +kernel
theorem dX8_works_85 : decode cX8_works 85 = .ok (.iload_n 3, 1) := by decide +kernel
theorem dX8_works_86 : decode cX8_works 86 = .ok (.invokevirtual 75, 3) := by decide +kernel
theorem dX8_works_89 : decode cX8_works 89 = .ok (.invokevirtual 79, 3) := by decide +kernel
theorem dX8_works_92 : decode cX8_works 92 = .ok (.iadd, 1) := by decide +kernel
theorem dX8_works_93 : decode cX8_works 93 = .ok (.iadd, 1) := by decide +kernel
theorem dX8_works_94 : decode cX8_works 94 = .ok (.istore_n 3, 1) := by decide +kernel
theorem dX8_works_95 : decode cX8_works 95 = .ok (.goto (-58), 3) := by decide +kernel
theorem dX8_works_98 : decode cX8_works 98 = .ok (.iload_n 2, 1) := by decide +kernel
theorem dX8_works_99 : decode cX8_works 99 = .ok (.ifCond .le 14, 3) := by decide +kernel
theorem dX8_works_102 : decode cX8_works 102 = .ok (.aload_n 0, 1) := by decide +kernel
theorem dX8_works_103 : decode cX8_works 103 = .ok (.getfield 10, 3) := by decide +kernel
theorem dX8_works_106 : decode cX8_works 106 = .ok (.aload_n 0, 1) := by decide +kernel
theorem dX8_works_107 : decode cX8_works 107 = .ok (.getfield 16, 3) := by decide +kernel
theorem dX8_works_110 : decode cX8_works 110 = .ok (.invokevirtual 63, 3) := by decide +kernel
theorem dX8_works_113 : decode cX8_works 113 = .ok (.aload_n 0, 1) := by decide +kernel
theorem dX8_works_114 : decode cX8_works 114 = .ok (.getfield 29, 3) := by decide +kernel
theorem dX8_works_117 : decode cX8_works 117 = .ok (.invokevirtual 84, 3) := by decide +kernel
theorem dX8_works_120 : decode cX8_works 120 = .ok (.iload_n 2, 1) := by decide +kernel
theorem dX8_works_121 : decode cX8_works 121 = .ok (.ireturn, 1) := by decide +kernel
theorem dX8_worker_0 : decode cX8_worker 0 = .ok (.aload_n 0, 1) := by decide +kernel
theorem dX8_worker_1 : decode cX8_worker 1 = .ok (.getfield 10, 3) := by decide +kernel
theorem dX8_worker_4 : decode cX8_worker 4 = .ok (.iload_n 1, 1) := by decide +kernel
theorem dX8_worker_5 : decode cX8_worker 5 = .ok (.invokevirtual 87, 3) := by decide +kernel
theorem dX8_worker_8 : decode cX8_worker 8 = .ok (.ifCond .ne 9, 3) := by decide +kernel
theorem dX8_worker_11 : decode cX8_worker 11 = .ok (.aload_n 0, 1) := by decide +kernel
theorem dX8_worker_12 : decode cX8_worker 12 = .ok (.iconst (-1), 1) := by decide +kernel
theorem dX8_worker_13 : decode cX8_worker 13 = .ok (.invokevirtual 52, 3) := by decide +kernel
theorem dX8_worker_16 : decode cX8_worker 16 = .ok (.ireturn, 1) := by decide +kernel
theorem dX8_worker_17 : decode cX8_worker 17 = .ok (.iload_n 2, 1) := by decide +kernel
theorem dX8_worker_18 : decode cX8_worker 18 = .ok (.tableswitch 109 0 5 #[38, 48, 58, 68, 78, 88], 38) := by decide +kernel
theorem dX8_worker_56 : decode cX8_worker 56 = .ok (.aload_n 0, 1) := by decide +kernel
theorem dX8_worker_57 : decode cX8_worker 57 = .ok (.getfield 10, 3) := by decide +kernel
theorem dX8_worker_60 : decode cX8_worker 60 = .ok (.getfield 91, 3) := by decide +kernel
theorem dX8_worker_63 : decode cX8_worker 63 = .ok (.iload_n 1, 1) := by decide +kernel
theorem dX8_worker_64 : decode cX8_worker 64 = .ok (.iaload, 1) := by decide +kernel
theorem dX8_worker_65 : decode cX8_worker 65 = .ok (.ireturn, 1) := by decide +kernel
theorem dX8_worker_66 : decode cX8_worker 66 = .ok (.aload_n 0, 1) := by decide +kernel
theorem dX8_worker_67 : decode cX8_worker 67 = .ok (.getfield 10, 3) := by decide +kernel
theorem dX8_worker_70 : decode cX8_worker 70 = .ok (.getfield 94, 3) := by decide +kernel
theorem dX8_worker_73 : decode cX8_worker 73 = .ok (.iload_n 1, 1) := by decide +kernel
theorem dX8_worker_74 : decode cX8_worker 74 = .ok (.iaload, 1) := by decide +kernel
theorem dX8_worker_75 : decode cX8_worker 75 = .ok (.ireturn, 1) := by decide +kernel
theorem dX8_worker_76 : decode cX8_worker 76 = .ok (.aload_n 0, 1) := by decide +kernel
theorem dX8_worker_77 : decode cX8_worker 77 = .ok (.getfield 10, 3) := by decide +kernel
theorem dX8_worker_80 : decode cX8_worker 80 = .ok (.getfield 97, 3) := by decide +kernel
theorem dX8_worker_83 : decode cX8_worker 83 = .ok (.iload_n 1, 1) := by decide +kernel
theorem dX8_worker_84 : decode cX8_worker 84 = .ok (.iaload, 1) := by decide +kernel
theorem dX8_worker_85 : decode cX8_worker 85 = .ok (.ireturn, 1) := by decide +kernel
theorem dX8_worker_86 : decode cX8_worker 86 = .ok (.aload_n 0, 1) := by decide +kernel
theorem dX8_worker_87 : decode cX8_worker 87 = .ok (.getfield 10, 3) := by decide +kernel
theorem dX8_worker_90 : decode cX8_worker 90 = .ok (.getfield 100, 3) := by decide +kernel
theorem dX8_worker_93 : decode cX8_worker 93 = .ok (.iload_n 1, 1) := by decide +kernel
theorem dX8_worker_94 : decode cX8_worker 94 = .ok (.iaload, 1) := by decide +kernel
theorem dX8_worker_95 : decode cX8_worker 95 = .ok (.ireturn, 1) := by decide +kernel
theorem dX8_worker_96 : decode cX8_worker 96 = .ok (.aload_n 0, 1) := by decide +kernel
theorem dX8_worker_97 : decode cX8_worker 97 = .ok (.getfield 10, 3) := by decide +kernel
theorem dX8_worker_100 : decode cX8_worker 100 = .ok (.getfield 103, 3) := by decide +kernel
theorem dX8_worker_103 : decode cX8_worker 103 = .ok (.iload_n 1, 1) := by decide +kernel
theorem dX8_worker_104 : decode cX8_worker 104 = .ok (.iaload, 1) := by decide +kernel
theorem dX8_worker_105 : decode cX8_worker 105 = .ok (.ireturn, 1) := by decide +kernel
theorem dX8_worker_106 : decode cX8_worker 106 = .ok (.aload_n 0, 1) := by decide +kernel
theorem dX8_worker_107 : decode cX8_worker 107 = .ok (.getfield 10, 3) := by decide +kernel
theorem dX8_worker_110 : decode cX8_worker 110 = .ok (.iload_n 1, 1) := by decide +kernel
theorem dX8_worker_111 : decode cX8_worker 111 = .ok (.invokevirtual 106, 3) := by decide +kernel
theorem dX8_worker_114 : decode cX8_worker 114 = .ok (.aload_n 0, 1) := by decide +kernel
theorem dX8_worker_115 : decode cX8_worker 115 = .ok (.getfield 10, 3) := by decide +kernel
theorem dX8_worker_118 : decode cX8_worker 118 = .ok (.getfield 94, 3) := by decide +kernel
theorem dX8_worker_121 : decode cX8_worker 121 = .ok (.iload_n 1, 1) := by decide +kernel
theorem dX8_worker_122 : decode cX8_worker 122 = .ok (.iaload, 1) := by decide +kernel
theorem dX8_worker_123 : decode cX8_worker 123 = .ok (.invokevirtual 110, 3) := by decide +kernel
theorem dX8_worker_126 : decode cX8_worker 126 = .ok (.ireturn, 1) := by decide +kernel
theorem dX8_worker_127 : decode cX8_worker 127 = .ok (.aload_n 0, 1) := by decide +kernel
theorem dX8_worker_128 : decode cX8_worker 128 = .ok (.bipush (-2), 2) := by decide +kernel
theorem dX8_worker_130 : decode cX8_worker 130 = .ok (.invokevirtual 52, 3) := by decide +kernel
theorem dX8_worker_133 : decode cX8_worker 133 = .ok (.ireturn, 1) := by decide +kernel
theorem dX8_from_0 : decode cX8_from 0 = .ok (.aload_n 0, 1) := by decide +kernel
end
section
theorem dX8_from_1 : decode cX8_from 1 = .ok (.getfield 10, 3) := by decide +kernel
theorem dX8_from_4 : decode cX8_from 4 = .ok (.iload_n 1, 1) := by decide +kernel
theorem dX8_from_5 : decode cX8_from 5 = .ok (.invokevirtual 87, 3) := by decide +kernel
theorem dX8_from_8 : decode cX8_from 8 = .ok (.ifCond .ne 9, 3) := by decide +kernel
theorem dX8_from_11 : decode cX8_from 11 = .ok (.aload_n 0, 1) := by decide +kernel
theorem dX8_from_12 : decode cX8_from 12 = .ok (.iconst (-1), 1) := by decide +kernel
theorem dX8_from_13 : decode cX8_from 13 = .ok (.invokevirtual 52, 3) := by decide +kernel
theorem dX8_from_16 : decode cX8_from 16 = .ok (.ireturn, 1) := by decide +kernel
theorem dX8_from_17 : decode cX8_from 17 = .ok (.iload_n 2, 1) := by decide +kernel
theorem dX8_from_18 : decode cX8_from 18 = .ok (.invokestatic 115, 3) := by decide +kernel
theorem dX8_from_21 : decode cX8_from 21 = .ok (.ifCond .ne 10, 3) := by decide +kernel
theorem dX8_from_24 : decode cX8_from 24 = .ok (.aload_n 0, 1) := by decide +kernel
theorem dX8_from_25 : decode cX8_from 25 = .ok (.bipush (-2), 2) := by decide +kernel
theorem dX8_from_27 : decode cX8_from 27 = .ok (.invokevirtual 52, 3) := by decide +kernel
theorem dX8_from_30 : decode cX8_from 30 = .ok (.ireturn, 1) := by decide +kernel
theorem dX8_from_31 : decode cX8_from 31 = .ok (.aload_n 0, 1) := by decide +kernel
theorem dX8_from_32 : decode cX8_from 32 = .ok (.getfield 10, 3) := by decide +kernel
theorem dX8_from_35 : decode cX8_from 35 = .ok (.iload_n 1, 1) := by decide +kernel
theorem dX8_from_36 : decode cX8_from 36 = .ok (.invokevirtual 106, 3) := by decide +kernel
theorem dX8_from_39 : decode cX8_from 39 = .ok (.astore_n 3, 1) := by decide +kernel
theorem dX8_from_40 : decode cX8_from 40 = .ok (.aload_n 3, 1) := by decide +kernel
theorem dX8_from_41 : decode cX8_from 41 = .ok (.aload_n 0, 1) := by decide +kernel
theorem dX8_from_42 : decode cX8_from 42 = .ok (.getfield 10, 3) := by decide +kernel
theorem dX8_from_45 : decode cX8_from 45 = .ok (.iload_n 1, 1) := by decide +kernel
theorem dX8_from_46 : decode cX8_from 46 = .ok (.invokevirtual 118, 3) := by decide +kernel
theorem dX8_from_49 : decode cX8_from 49 = .ok (.istore 4, 2) := by decide +kernel
theorem dX8_from_51 : decode cX8_from 51 = .ok (.iload 4, 2) := by decide +kernel
theorem dX8_from_53 : decode cX8_from 53 = .ok (.bipush (-9), 2) := by decide +kernel
theorem dX8_from_55 : decode cX8_from 55 = .ok (.if_icmp .eq 7, 3) := by decide +kernel
theorem dX8_from_58 : decode cX8_from 58 = .ok (.iload_n 2, 1) := by decide +kernel
theorem dX8_from_59 : decode cX8_from 59 = .ok (.ifCond .ne 6, 3) := by decide +kernel
theorem dX8_from_62 : decode cX8_from 62 = .ok (.iload 4, 2) := by decide +kernel
theorem dX8_from_64 : decode cX8_from 64 = .ok (.ireturn, 1) := by decide +kernel
theorem dX8_from_65 : decode cX8_from 65 = .ok (.aload_n 3, 1) := by decide +kernel
theorem dX8_from_66 : decode cX8_from 66 = .ok (.aload_n 0, 1) := by decide +kernel
theorem dX8_from_67 : decode cX8_from 67 = .ok (.getfield 10, 3) := by decide +kernel
theorem dX8_from_70 : decode cX8_from 70 = .ok (.iload 4, 2) := by decide +kernel
theorem dX8_from_72 : decode cX8_from 72 = .ok (.iload_n 1, 1) := by decide +kernel
theorem dX8_from_73 : decode cX8_from 73 = .ok (.invokevirtual 122, 3) := by decide +kernel
theorem dX8_from_76 : decode cX8_from 76 = .ok (.invokevirtual 126, 3) := by decide +kernel
theorem dX8_from_79 : decode cX8_from 79 = .ok (.ireturn, 1) := by decide +kernel
theorem dX8_frees_0 : decode cX8_frees 0 = .ok (.aload_n 0, 1) := by decide +kernel
theorem dX8_frees_1 : decode cX8_frees 1 = .ok (.getfield 10, 3) := by decide +kernel
theorem dX8_frees_4 : decode cX8_frees 4 = .ok (.iload_n 1, 1) := by decide +kernel
theorem dX8_frees_5 : decode cX8_frees 5 = .ok (.invokevirtual 87, 3) := by decide +kernel
theorem dX8_frees_8 : decode cX8_frees 8 = .ok (.ifCond .eq 10, 3) := by decide +kernel
theorem dX8_frees_11 : decode cX8_frees 11 = .ok (.iload_n 2, 1) := by decide +kernel
theorem dX8_frees_12 : decode cX8_frees 12 = .ok (.invokestatic 129, 3) := by decide +kernel
theorem dX8_frees_15 : decode cX8_frees 15 = .ok (.ifCond .ne 9, 3) := by decide +kernel
theorem dX8_frees_18 : decode cX8_frees 18 = .ok (.aload_n 0, 1) := by decide +kernel
theorem dX8_frees_19 : decode cX8_frees 19 = .ok (.iconst (-1), 1) := by decide +kernel
theorem dX8_frees_20 : decode cX8_frees 20 = .ok (.invokevirtual 52, 3) := by decide +kernel
theorem dX8_frees_23 : decode cX8_frees 23 = .ok (.ireturn, 1) := by decide +kernel
theorem dX8_frees_24 : decode cX8_frees 24 = .ok (.aload_n 0, 1) := by decide +kernel
theorem dX8_frees_25 : decode cX8_frees 25 = .ok (.getfield 10, 3) := by decide +kernel
theorem dX8_frees_28 : decode cX8_frees 28 = .ok (.iload_n 1, 1) := by decide +kernel
theorem dX8_frees_29 : decode cX8_frees 29 = .ok (.iload_n 2, 1) := by decide +kernel
theorem dX8_frees_30 : decode cX8_frees 30 = .ok (.invokevirtual 132, 3) := by decide +kernel
theorem dX8_frees_33 : decode cX8_frees 33 = .ok (.aload_n 0, 1) := by decide +kernel
theorem dX8_frees_34 : decode cX8_frees 34 = .ok (.getfield 10, 3) := by decide +kernel
theorem dX8_frees_37 : decode cX8_frees 37 = .ok (.getfield 97, 3) := by decide +kernel
theorem dX8_frees_40 : decode cX8_frees 40 = .ok (.iload_n 1, 1) := by decide +kernel
theorem dX8_frees_41 : decode cX8_frees 41 = .ok (.iaload, 1) := by decide +kernel
theorem dX8_frees_42 : decode cX8_frees 42 = .ok (.ireturn, 1) := by decide +kernel
theorem dX8_gives_0 : decode cX8_gives 0 = .ok (.aload_n 0, 1) := by decide +kernel
theorem dX8_gives_1 : decode cX8_gives 1 = .ok (.iload_n 1, 1) := by decide +kernel
theorem dX8_gives_2 : decode cX8_gives 2 = .ok (.iload_n 2, 1) := by decide +kernel
theorem dX8_gives_3 : decode cX8_gives 3 = .ok (.invokevirtual 136, 3) := by decide +kernel
theorem dX8_gives_6 : decode cX8_gives 6 = .ok (.ifCond .eq 10, 3) := by decide +kernel
theorem dX8_gives_9 : decode cX8_gives 9 = .ok (.iload_n 3, 1) := by decide +kernel
theorem dX8_gives_10 : decode cX8_gives 10 = .ok (.invokestatic 129, 3) := by decide +kernel
theorem dX8_gives_13 : decode cX8_gives 13 = .ok (.ifCond .ne 9, 3) := by decide +kernel
theorem dX8_gives_16 : decode cX8_gives 16 = .ok (.aload_n 0, 1) := by decide +kernel
theorem dX8_gives_17 : decode cX8_gives 17 = .ok (.iconst (-1), 1) := by decide +kernel
theorem dX8_gives_18 : decode cX8_gives 18 = .ok (.invokevirtual 52, 3) := by decide +kernel
theorem dX8_gives_21 : decode cX8_gives 21 = .ok (.ireturn, 1) := by decide +kernel
theorem dX8_gives_22 : decode cX8_gives 22 = .ok (.aload_n 0, 1) := by decide +kernel
theorem dX8_gives_23 : decode cX8_gives 23 = .ok (.getfield 10, 3) := by decide +kernel
theorem dX8_gives_26 : decode cX8_gives 26 = .ok (.iload_n 1, 1) := by decide +kernel
theorem dX8_gives_27 : decode cX8_gives 27 = .ok (.iload_n 2, 1) := by decide +kernel
theorem dX8_gives_28 : decode cX8_gives 28 = .ok (.iload_n 3, 1) := by decide +kernel
theorem dX8_gives_29 : decode cX8_gives 29 = .ok (.invokevirtual 140, 3) := by decide +kernel
theorem dX8_gives_32 : decode cX8_gives 32 = .ok (.ifCond .ne 10, 3) := by decide +kernel
theorem dX8_gives_35 : decode cX8_gives 35 = .ok (.aload_n 0, 1) := by decide +kernel
theorem dX8_gives_36 : decode cX8_gives 36 = .ok (.bipush (-3), 2) := by decide +kernel
theorem dX8_gives_38 : decode cX8_gives 38 = .ok (.invokevirtual 52, 3) := by decide +kernel
theorem dX8_gives_41 : decode cX8_gives 41 = .ok (.ireturn, 1) := by decide +kernel
theorem dX8_gives_42 : decode cX8_gives 42 = .ok (.aload_n 0, 1) := by decide +kernel
theorem dX8_gives_43 : decode cX8_gives 43 = .ok (.getfield 10, 3) := by decide +kernel
theorem dX8_gives_46 : decode cX8_gives 46 = .ok (.iload_n 1, 1) := by decide +kernel
theorem dX8_gives_47 : decode cX8_gives 47 = .ok (.iload_n 2, 1) := by decide +kernel
theorem dX8_gives_48 : decode cX8_gives 48 = .ok (.iload_n 3, 1) := by decide +kernel
theorem dX8_gives_49 : decode cX8_gives 49 = .ok (.invokevirtual 144, 3) := by decide +kernel
theorem dX8_gives_52 : decode cX8_gives 52 = .ok (.aload_n 0, 1) := by decide +kernel
theorem dX8_gives_53 : decode cX8_gives 53 = .ok (.getfield 10, 3) := by decide +kernel
theorem dX8_gives_56 : decode cX8_gives 56 = .ok (.getfield 97, 3) := by decide +kernel
theorem dX8_gives_59 : decode cX8_gives 59 = .ok (.iload_n 2, 1) := by decide +kernel
theorem dX8_gives_60 : decode cX8_gives 60 = .ok (.iaload, 1) := by decide +kernel
theorem dX8_gives_61 : decode cX8_gives 61 = .ok (.ireturn, 1) := by decide +kernel
theorem dX8_rests_0 : decode cX8_rests 0 = .ok (.aload_n 0, 1) := by decide +kernel
theorem dX8_rests_1 : decode cX8_rests 1 = .ok (.getfield 10, 3) := by decide +kernel
theorem dX8_rests_4 : decode cX8_rests 4 = .ok (.iload_n 1, 1) := by decide +kernel
theorem dX8_rests_5 : decode cX8_rests 5 = .ok (.invokevirtual 87, 3) := by decide +kernel
theorem dX8_rests_8 : decode cX8_rests 8 = .ok (.ifCond .ne 9, 3) := by decide +kernel
theorem dX8_rests_11 : decode cX8_rests 11 = .ok (.aload_n 0, 1) := by decide +kernel
theorem dX8_rests_12 : decode cX8_rests 12 = .ok (.iconst (-1), 1) := by decide +kernel
theorem dX8_rests_13 : decode cX8_rests 13 = .ok (.invokevirtual 52, 3) := by decide +kernel
theorem dX8_rests_16 : decode cX8_rests 16 = .ok (.ireturn, 1) := by decide +kernel
theorem dX8_rests_17 : decode cX8_rests 17 = .ok (.iload_n 2, 1) := by decide +kernel
theorem dX8_rests_18 : decode cX8_rests 18 = .ok (.iconst 0, 1) := by decide +kernel
theorem dX8_rests_19 : decode cX8_rests 19 = .ok (.bipush 30, 2) := by decide +kernel
theorem dX8_rests_21 : decode cX8_rests 21 = .ok (.invokestatic 44, 3) := by decide +kernel
theorem dX8_rests_24 : decode cX8_rests 24 = .ok (.istore_n 3, 1) := by decide +kernel
theorem dX8_rests_25 : decode cX8_rests 25 = .ok (.iload_n 3, 1) := by decide +kernel
theorem dX8_rests_26 : decode cX8_rests 26 = .ok (.ifCond .eq 9, 3) := by decide +kernel
theorem dX8_rests_29 : decode cX8_rests 29 = .ok (.aload_n 0, 1) := by decide +kernel
theorem dX8_rests_30 : decode cX8_rests 30 = .ok (.iload_n 3, 1) := by decide +kernel
theorem dX8_rests_31 : decode cX8_rests 31 = .ok (.invokevirtual 52, 3) := by decide +kernel
theorem dX8_rests_34 : decode cX8_rests 34 = .ok (.ireturn, 1) := by decide +kernel
theorem dX8_rests_35 : decode cX8_rests 35 = .ok (.aload_n 0, 1) := by decide +kernel
theorem dX8_rests_36 : decode cX8_rests 36 = .ok (.getfield 10, 3) := by decide +kernel
theorem dX8_rests_39 : decode cX8_rests 39 = .ok (.getfield 100, 3) := by decide +kernel
theorem dX8_rests_42 : decode cX8_rests 42 = .ok (.iload_n 1, 1) := by decide +kernel
theorem dX8_rests_43 : decode cX8_rests 43 = .ok (.iaload, 1) := by decide +kernel
theorem dX8_rests_44 : decode cX8_rests 44 = .ok (.istore 4, 2) := by decide +kernel
theorem dX8_rests_46 : decode cX8_rests 46 = .ok (.aload_n 0, 1) := by decide +kernel
theorem dX8_rests_47 : decode cX8_rests 47 = .ok (.getfield 10, 3) := by decide +kernel
theorem dX8_rests_50 : decode cX8_rests 50 = .ok (.getfield 100, 3) := by decide +kernel
theorem dX8_rests_53 : decode cX8_rests 53 = .ok (.iload_n 1, 1) := by decide +kernel
theorem dX8_rests_54 : decode cX8_rests 54 = .ok (.iload_n 2, 1) := by decide +kernel
theorem dX8_rests_55 : decode cX8_rests 55 = .ok (.iastore, 1) := by decide +kernel
theorem dX8_rests_56 : decode cX8_rests 56 = .ok (.iload 4, 2) := by decide +kernel
theorem dX8_rests_58 : decode cX8_rests 58 = .ok (.ireturn, 1) := by decide +kernel
theorem dX8_turn_0 : decode cX8_turn 0 = .ok (.aload_n 0, 1) := by decide +kernel
theorem dX8_turn_1 : decode cX8_turn 1 = .ok (.getfield 10, 3) := by decide +kernel
theorem dX8_turn_4 : decode cX8_turn 4 = .ok (.iload_n 1, 1) := by decide +kernel
theorem dX8_turn_5 : decode cX8_turn 5 = .ok (.invokevirtual 87, 3) := by decide +kernel
theorem dX8_turn_8 : decode cX8_turn 8 = .ok (.ifCond .ne 9, 3) := by decide +kernel
theorem dX8_turn_11 : decode cX8_turn 11 = .ok (.aload_n 0, 1) := by decide +kernel
theorem dX8_turn_12 : decode cX8_turn 12 = .ok (.iconst (-1), 1) := by decide +kernel
theorem dX8_turn_13 : decode cX8_turn 13 = .ok (.invokevirtual 52, 3) := by decide +kernel
theorem dX8_turn_16 : decode cX8_turn 16 = .ok (.ireturn, 1) := by decide +kernel
theorem dX8_turn_17 : decode cX8_turn 17 = .ok (.iload_n 2, 1) := by decide +kernel
theorem dX8_turn_18 : decode cX8_turn 18 = .ok (.ifCond .lt 9, 3) := by decide +kernel
theorem dX8_turn_21 : decode cX8_turn 21 = .ok (.iload_n 2, 1) := by decide +kernel
theorem dX8_turn_22 : decode cX8_turn 22 = .ok (.bipush 6, 2) := by decide +kernel
theorem dX8_turn_24 : decode cX8_turn 24 = .ok (.if_icmp .lt 10, 3) := by decide +kernel
theorem dX8_turn_27 : decode cX8_turn 27 = .ok (.aload_n 0, 1) := by decide +kernel
theorem dX8_turn_28 : decode cX8_turn 28 = .ok (.bipush (-2), 2) := by decide +kernel
theorem dX8_turn_30 : decode cX8_turn 30 = .ok (.invokevirtual 52, 3) := by decide +kernel
theorem dX8_turn_33 : decode cX8_turn 33 = .ok (.ireturn, 1) := by decide +kernel
theorem dX8_turn_34 : decode cX8_turn 34 = .ok (.iload_n 3, 1) := by decide +kernel
theorem dX8_turn_35 : decode cX8_turn 35 = .ok (.iconst 0, 1) := by decide +kernel
theorem dX8_turn_36 : decode cX8_turn 36 = .ok (.bipush 9, 2) := by decide +kernel
theorem dX8_turn_38 : decode cX8_turn 38 = .ok (.invokestatic 44, 3) := by decide +kernel
theorem dX8_turn_41 : decode cX8_turn 41 = .ok (.istore 4, 2) := by decide +kernel
theorem dX8_turn_43 : decode cX8_turn 43 = .ok (.iload 4, 2) := by decide +kernel
theorem dX8_turn_45 : decode cX8_turn 45 = .ok (.ifCond .eq 10, 3) := by decide +kernel
theorem dX8_turn_48 : decode cX8_turn 48 = .ok (.aload_n 0, 1) := by decide +kernel
theorem dX8_turn_49 : decode cX8_turn 49 = .ok (.iload 4, 2) := by decide +kernel
theorem dX8_turn_51 : decode cX8_turn 51 = .ok (.invokevirtual 52, 3) := by decide +kernel
theorem dX8_turn_54 : decode cX8_turn 54 = .ok (.ireturn, 1) := by decide +kernel
theorem dX8_turn_55 : decode cX8_turn 55 = .ok (.bipush 10, 2) := by decide +kernel
theorem dX8_turn_57 : decode cX8_turn 57 = .ok (.aload_n 0, 1) := by decide +kernel
theorem dX8_turn_58 : decode cX8_turn 58 = .ok (.getfield 10, 3) := by decide +kernel
theorem dX8_turn_61 : decode cX8_turn 61 = .ok (.getfield 91, 3) := by decide +kernel
theorem dX8_turn_64 : decode cX8_turn 64 = .ok (.iload_n 1, 1) := by decide +kernel
theorem dX8_turn_65 : decode cX8_turn 65 = .ok (.iaload, 1) := by decide +kernel
theorem dX8_turn_66 : decode cX8_turn 66 = .ok (.imul, 1) := by decide +kernel
theorem dX8_turn_67 : decode cX8_turn 67 = .ok (.aload_n 0, 1) := by decide +kernel
theorem dX8_turn_68 : decode cX8_turn 68 = .ok (.getfield 10, 3) := by decide +kernel
theorem dX8_turn_71 : decode cX8_turn 71 = .ok (.getfield 94, 3) := by decide +kernel
theorem dX8_turn_74 : decode cX8_turn 74 = .ok (.iload_n 1, 1) := by decide +kernel
theorem dX8_turn_75 : decode cX8_turn 75 = .ok (.iaload, 1) := by decide +kernel
theorem dX8_turn_76 : decode cX8_turn 76 = .ok (.iadd, 1) := by decide +kernel
theorem dX8_turn_77 : decode cX8_turn 77 = .ok (.istore 5, 2) := by decide +kernel
theorem dX8_turn_79 : decode cX8_turn 79 = .ok (.aload_n 0, 1) := by decide +kernel
theorem dX8_turn_80 : decode cX8_turn 80 = .ok (.getfield 10, 3) := by decide +kernel
theorem dX8_turn_83 : decode cX8_turn 83 = .ok (.getfield 91, 3) := by decide +kernel
theorem dX8_turn_86 : decode cX8_turn 86 = .ok (.iload_n 1, 1) := by decide +kernel
theorem dX8_turn_87 : decode cX8_turn 87 = .ok (.iload_n 2, 1) := by decide +kernel
theorem dX8_turn_88 : decode cX8_turn 88 = .ok (.iastore, 1) := by decide +kernel
theorem dX8_turn_89 : decode cX8_turn 89 = .ok (.aload_n 0, 1) := by decide +kernel
theorem dX8_turn_90 : decode cX8_turn 90 = .ok (.getfield 10, 3) := by decide +kernel
theorem dX8_turn_93 : decode cX8_turn 93 = .ok (.getfield 94, 3) := by decide +kernel
theorem dX8_turn_96 : decode cX8_turn 96 = .ok (.iload_n 1, 1) := by decide +kernel
theorem dX8_turn_97 : decode cX8_turn 97 = .ok (.iload_n 3, 1) := by decide +kernel
theorem dX8_turn_98 : decode cX8_turn 98 = .ok (.iastore, 1) := by decide +kernel
theorem dX8_turn_99 : decode cX8_turn 99 = .ok (.iload 5, 2) := by decide +kernel
theorem dX8_turn_101 : decode cX8_turn 101 = .ok (.ireturn, 1) := by decide +kernel
theorem dX8_days_0 : decode cX8_days 0 = .ok (.iload_n 1, 1) := by decide +kernel
theorem dX8_days_1 : decode cX8_days 1 = .ok (.iconst 1, 1) := by decide +kernel
theorem dX8_days_2 : decode cX8_days 2 = .ok (.bipush 60, 2) := by decide +kernel
theorem dX8_days_4 : decode cX8_days 4 = .ok (.invokestatic 44, 3) := by decide +kernel
theorem dX8_days_7 : decode cX8_days 7 = .ok (.istore_n 2, 1) := by decide +kernel
theorem dX8_days_8 : decode cX8_days 8 = .ok (.iload_n 2, 1) := by decide +kernel
theorem dX8_days_9 : decode cX8_days 9 = .ok (.ifCond .ne 21, 3) := by decide +kernel
theorem dX8_days_12 : decode cX8_days 12 = .ok (.aload_n 0, 1) := by decide +kernel
theorem dX8_days_13 : decode cX8_days 13 = .ok (.getfield 10, 3) := by decide +kernel
theorem dX8_days_16 : decode cX8_days 16 = .ok (.getfield 148, 3) := by decide +kernel
theorem dX8_days_19 : decode cX8_days 19 = .ok (.iload_n 1, 1) := by decide +kernel
theorem dX8_days_20 : decode cX8_days 20 = .ok (.iadd, 1) := by decide +kernel
theorem dX8_days_21 : decode cX8_days 21 = .ok (.sipush 999, 3) := by decide +kernel
theorem dX8_days_24 : decode cX8_days 24 = .ok (.if_icmp .le 6, 3) := by decide +kernel
theorem dX8_days_27 : decode cX8_days 27 = .ok (.bipush (-6), 2) := by decide +kernel
theorem dX8_days_29 : decode cX8_days 29 = .ok (.istore_n 2, 1) := by decide +kernel
theorem dX8_days_30 : decode cX8_days 30 = .ok (.iload_n 2, 1) := by decide +kernel
theorem dX8_days_31 : decode cX8_days 31 = .ok (.ifCond .eq 9, 3) := by decide +kernel
theorem dX8_days_34 : decode cX8_days 34 = .ok (.aload_n 0, 1) := by decide +kernel
theorem dX8_days_35 : decode cX8_days 35 = .ok (.iload_n 2, 1) := by decide +kernel
theorem dX8_days_36 : decode cX8_days 36 = .ok (.invokevirtual 52, 3) := by decide +kernel
theorem dX8_days_39 : decode cX8_days 39 = .ok (.ireturn, 1) := by decide +kernel
theorem dX8_days_40 : decode cX8_days 40 = .ok (.aload_n 0, 1) := by decide +kernel
theorem dX8_days_41 : decode cX8_days 41 = .ok (.getfield 10, 3) := by decide +kernel
theorem dX8_days_44 : decode cX8_days 44 = .ok (.iload_n 1, 1) := by decide +kernel
theorem dX8_days_45 : decode cX8_days 45 = .ok (.iconst 0, 1) := by decide +kernel
theorem dX8_days_46 : decode cX8_days 46 = .ok (.invokevirtual 151, 3) := by decide +kernel
theorem dX8_days_49 : decode cX8_days 49 = .ok (.pop, 1) := by decide +kernel
theorem dX8_days_50 : decode cX8_days 50 = .ok (.aload_n 0, 1) := by decide +kernel
theorem dX8_days_51 : decode cX8_days 51 = .ok (.getfield 10, 3) := by decide +kernel
theorem dX8_days_54 : decode cX8_days 54 = .ok (.getfield 154, 3) := by decide +kernel
theorem dX8_days_57 : decode cX8_days 57 = .ok (.ireturn, 1) := by decide +kernel
theorem dX8_workerThen_0 : decode cX8_workerThen 0 = .ok (.aload_n 0, 1) := by decide +kernel
theorem dX8_workerThen_1 : decode cX8_workerThen 1 = .ok (.getfield 10, 3) := by decide +kernel
theorem dX8_workerThen_4 : decode cX8_workerThen 4 = .ok (.iload_n 1, 1) := by decide +kernel
theorem dX8_workerThen_5 : decode cX8_workerThen 5 = .ok (.invokevirtual 87, 3) := by decide +kernel
theorem dX8_workerThen_8 : decode cX8_workerThen 8 = .ok (.ifCond .ne 9, 3) := by decide +kernel
theorem dX8_workerThen_11 : decode cX8_workerThen 11 = .ok (.aload_n 0, 1) := by decide +kernel
theorem dX8_workerThen_12 : decode cX8_workerThen 12 = .ok (.iconst (-1), 1) := by decide +kernel
theorem dX8_workerThen_13 : decode cX8_workerThen 13 = .ok (.invokevirtual 52, 3) := by decide +kernel
theorem dX8_workerThen_16 : decode cX8_workerThen 16 = .ok (.ireturn, 1) := by decide +kernel
theorem dX8_workerThen_17 : decode cX8_workerThen 17 = .ok (.iload_n 2, 1) := by decide +kernel
theorem dX8_workerThen_18 : decode cX8_workerThen 18 = .ok (.iconst 0, 1) := by decide +kernel
theorem dX8_workerThen_19 : decode cX8_workerThen 19 = .ok (.bipush 60, 2) := by decide +kernel
theorem dX8_workerThen_21 : decode cX8_workerThen 21 = .ok (.invokestatic 44, 3) := by decide +kernel
theorem dX8_workerThen_24 : decode cX8_workerThen 24 = .ok (.istore 4, 2) := by decide +kernel
theorem dX8_workerThen_26 : decode cX8_workerThen 26 = .ok (.iload 4, 2) := by decide +kernel
theorem dX8_workerThen_28 : decode cX8_workerThen 28 = .ok (.ifCond .eq 10, 3) := by decide +kernel
theorem dX8_workerThen_31 : decode cX8_workerThen 31 = .ok (.aload_n 0, 1) := by decide +kernel
theorem dX8_workerThen_32 : decode cX8_workerThen 32 = .ok (.iload 4, 2) := by decide +kernel
theorem dX8_workerThen_34 : decode cX8_workerThen 34 = .ok (.invokevirtual 52, 3) := by decide +kernel
theorem dX8_workerThen_37 : decode cX8_workerThen 37 = .ok (.ireturn, 1) := by decide +kernel
theorem dX8_workerThen_38 : decode cX8_workerThen 38 = .ok (.iload_n 3, 1) := by decide +kernel
theorem dX8_workerThen_39 : decode cX8_workerThen 39 = .ok (.ifCond .lt 8, 3) := by decide +kernel
theorem dX8_workerThen_42 : decode cX8_workerThen 42 = .ok (.iload_n 3, 1) := by decide +kernel
theorem dX8_workerThen_43 : decode cX8_workerThen 43 = .ok (.iconst 2, 1) := by decide +kernel
theorem dX8_workerThen_44 : decode cX8_workerThen 44 = .ok (.if_icmp .le 10, 3) := by decide +kernel
theorem dX8_workerThen_47 : decode cX8_workerThen 47 = .ok (.aload_n 0, 1) := by decide +kernel
theorem dX8_workerThen_48 : decode cX8_workerThen 48 = .ok (.bipush (-2), 2) := by decide +kernel
theorem dX8_workerThen_50 : decode cX8_workerThen 50 = .ok (.invokevirtual 52, 3) := by decide +kernel
theorem dX8_workerThen_53 : decode cX8_workerThen 53 = .ok (.ireturn, 1) := by decide +kernel
theorem dX8_workerThen_54 : decode cX8_workerThen 54 = .ok (.aload_n 0, 1) := by decide +kernel
theorem dX8_workerThen_55 : decode cX8_workerThen 55 = .ok (.getfield 16, 3) := by decide +kernel
theorem dX8_workerThen_58 : decode cX8_workerThen 58 = .ok (.aload_n 0, 1) := by decide +kernel
theorem dX8_workerThen_59 : decode cX8_workerThen 59 = .ok (.getfield 10, 3) := by decide +kernel
theorem dX8_workerThen_62 : decode cX8_workerThen 62 = .ok (.invokevirtual 63, 3) := by decide +kernel
theorem dX8_workerThen_65 : decode cX8_workerThen 65 = .ok (.aload_n 0, 1) := by decide +kernel
theorem dX8_workerThen_66 : decode cX8_workerThen 66 = .ok (.getfield 16, 3) := by decide +kernel
theorem dX8_workerThen_69 : decode cX8_workerThen 69 = .ok (.iload_n 2, 1) := by decide +kernel
theorem dX8_workerThen_70 : decode cX8_workerThen 70 = .ok (.iconst 0, 1) := by decide +kernel
theorem dX8_workerThen_71 : decode cX8_workerThen 71 = .ok (.invokevirtual 151, 3) := by decide +kernel
theorem dX8_workerThen_74 : decode cX8_workerThen 74 = .ok (.pop, 1) := by decide +kernel
theorem dX8_workerThen_75 : decode cX8_workerThen 75 = .ok (.iload_n 3, 1) := by decide +kernel
theorem dX8_workerThen_76 : decode cX8_workerThen 76 = .ok (.ifCond .ne 13, 3) := by decide +kernel
theorem dX8_workerThen_79 : decode cX8_workerThen 79 = .ok (.aload_n 0, 1) := by decide +kernel
theorem dX8_workerThen_80 : decode cX8_workerThen 80 = .ok (.getfield 16, 3) := by decide +kernel
theorem dX8_workerThen_83 : decode cX8_workerThen 83 = .ok (.getfield 97, 3) := by decide +kernel
theorem dX8_workerThen_86 : decode cX8_workerThen 86 = .ok (.iload_n 1, 1) := by decide +kernel
theorem dX8_workerThen_87 : decode cX8_workerThen 87 = .ok (.iaload, 1) := by decide +kernel
theorem dX8_workerThen_88 : decode cX8_workerThen 88 = .ok (.ireturn, 1) := by decide +kernel
theorem dX8_workerThen_89 : decode cX8_workerThen 89 = .ok (.iload_n 3, 1) := by decide +kernel
theorem dX8_workerThen_90 : decode cX8_workerThen 90 = .ok (.iconst 1, 1) := by decide +kernel
theorem dX8_workerThen_91 : decode cX8_workerThen 91 = .ok (.if_icmp .ne 15, 3) := by decide +kernel
theorem dX8_workerThen_94 : decode cX8_workerThen 94 = .ok (.aload_n 0, 1) := by decide +kernel
theorem dX8_workerThen_95 : decode cX8_workerThen 95 = .ok (.getfield 16, 3) := by decide +kernel
theorem dX8_workerThen_98 : decode cX8_workerThen 98 = .ok (.getfield 100, 3) := by decide +kernel
theorem dX8_workerThen_101 : decode cX8_workerThen 101 = .ok (.iload_n 1, 1) := by decide +kernel
theorem dX8_workerThen_102 : decode cX8_workerThen 102 = .ok (.iaload, 1) := by decide +kernel
theorem dX8_workerThen_103 : decode cX8_workerThen 103 = .ok (.goto 12, 3) := by decide +kernel
theorem dX8_workerThen_106 : decode cX8_workerThen 106 = .ok (.aload_n 0, 1) := by decide +kernel
theorem dX8_workerThen_107 : decode cX8_workerThen 107 = .ok (.getfield 16, 3) := by decide +kernel
theorem dX8_workerThen_110 : decode cX8_workerThen 110 = .ok (.getfield 103, 3) := by decide +kernel
theorem dX8_workerThen_113 : decode cX8_workerThen 113 = .ok (.iload_n 1, 1) := by decide +kernel
theorem dX8_workerThen_114 : decode cX8_workerThen 114 = .ok (.iaload, 1) := by decide +kernel
theorem dX8_workerThen_115 : decode cX8_workerThen 115 = .ok (.ireturn, 1) := by decide +kernel
theorem dX8_then_0 : decode cX8_then 0 = .ok (.iload_n 1, 1) := by decide +kernel
theorem dX8_then_1 : decode cX8_then 1 = .ok (.iconst 0, 1) := by decide +kernel
theorem dX8_then_2 : decode cX8_then 2 = .ok (.bipush 60, 2) := by decide +kernel
theorem dX8_then_4 : decode cX8_then 4 = .ok (.invokestatic 44, 3) := by decide +kernel
theorem dX8_then_7 : decode cX8_then 7 = .ok (.istore_n 3, 1) := by decide +kernel
theorem dX8_then_8 : decode cX8_then 8 = .ok (.iload_n 3, 1) := by decide +kernel
theorem dX8_then_9 : decode cX8_then 9 = .ok (.ifCond .eq 9, 3) := by decide +kernel
theorem dX8_then_12 : decode cX8_then 12 = .ok (.aload_n 0, 1) := by decide +kernel
theorem dX8_then_13 : decode cX8_then 13 = .ok (.iload_n 3, 1) := by decide +kernel
theorem dX8_then_14 : decode cX8_then 14 = .ok (.invokevirtual 52, 3) := by decide +kernel
theorem dX8_then_17 : decode cX8_then 17 = .ok (.ireturn, 1) := by decide +kernel
theorem dX8_then_18 : decode cX8_then 18 = .ok (.iload_n 2, 1) := by decide +kernel
theorem dX8_then_19 : decode cX8_then 19 = .ok (.invokestatic 115, 3) := by decide +kernel
theorem dX8_then_22 : decode cX8_then 22 = .ok (.ifCond .ne 10, 3) := by decide +kernel
theorem dX8_then_25 : decode cX8_then 25 = .ok (.aload_n 0, 1) := by decide +kernel
theorem dX8_then_26 : decode cX8_then 26 = .ok (.bipush (-2), 2) := by decide +kernel
theorem dX8_then_28 : decode cX8_then 28 = .ok (.invokevirtual 52, 3) := by decide +kernel
theorem dX8_then_31 : decode cX8_then 31 = .ok (.ireturn, 1) := by decide +kernel
theorem dX8_then_32 : decode cX8_then 32 = .ok (.aload_n 0, 1) := by decide +kernel
theorem dX8_then_33 : decode cX8_then 33 = .ok (.getfield 16, 3) := by decide +kernel
theorem dX8_then_36 : decode cX8_then 36 = .ok (.aload_n 0, 1) := by decide +kernel
theorem dX8_then_37 : decode cX8_then 37 = .ok (.getfield 10, 3) := by decide +kernel
theorem dX8_then_40 : decode cX8_then 40 = .ok (.invokevirtual 63, 3) := by decide +kernel
theorem dX8_then_43 : decode cX8_then 43 = .ok (.aload_n 0, 1) := by decide +kernel
theorem dX8_then_44 : decode cX8_then 44 = .ok (.getfield 16, 3) := by decide +kernel
theorem dX8_then_47 : decode cX8_then 47 = .ok (.iload_n 1, 1) := by decide +kernel
theorem dX8_then_48 : decode cX8_then 48 = .ok (.iconst 0, 1) := by decide +kernel
theorem dX8_then_49 : decode cX8_then 49 = .ok (.invokevirtual 151, 3) := by decide +kernel
theorem dX8_then_52 : decode cX8_then 52 = .ok (.pop, 1) := by decide +kernel
theorem dX8_then_53 : decode cX8_then 53 = .ok (.iload_n 2, 1) := by decide +kernel
theorem dX8_then_54 : decode cX8_then 54 = .ok (.ifCond .ne 13, 3) := by decide +kernel
theorem dX8_then_57 : decode cX8_then 57 = .ok (.aload_n 0, 1) := by decide +kernel
theorem dX8_then_58 : decode cX8_then 58 = .ok (.getfield 16, 3) := by decide +kernel
theorem dX8_then_61 : decode cX8_then 61 = .ok (.getfield 154, 3) := by decide +kernel
theorem dX8_then_64 : decode cX8_then 64 = .ok (.goto 17, 3) := by decide +kernel
theorem dX8_then_67 : decode cX8_then 67 = .ok (.aload_n 0, 1) := by decide +kernel
theorem dX8_then_68 : decode cX8_then 68 = .ok (.getfield 16, 3) := by decide +kernel
theorem dX8_then_71 : decode cX8_then 71 = .ok (.aload_n 0, 1) := by decide +kernel
theorem dX8_then_72 : decode cX8_then 72 = .ok (.getfield 16, 3) := by decide +kernel
theorem dX8_then_75 : decode cX8_then 75 = .ok (.invokevirtual 157, 3) := by decide +kernel
theorem dX8_then_78 : decode cX8_then 78 = .ok (.invokevirtual 160, 3) := by decide +kernel
theorem dX8_then_81 : decode cX8_then 81 = .ok (.ireturn, 1) := by decide +kernel
theorem dX8_falls_0 : decode cX8_falls 0 = .ok (.iload_n 1, 1) := by decide +kernel
theorem dX8_falls_1 : decode cX8_falls 1 = .ok (.iconst (-1), 1) := by decide +kernel
theorem dX8_falls_2 : decode cX8_falls 2 = .ok (.if_icmp .eq 20, 3) := by decide +kernel
theorem dX8_falls_5 : decode cX8_falls 5 = .ok (.aload_n 0, 1) := by decide +kernel
theorem dX8_falls_6 : decode cX8_falls 6 = .ok (.getfield 10, 3) := by decide +kernel
theorem dX8_falls_9 : decode cX8_falls 9 = .ok (.iload_n 1, 1) := by decide +kernel
theorem dX8_falls_10 : decode cX8_falls 10 = .ok (.invokevirtual 87, 3) := by decide +kernel
theorem dX8_falls_13 : decode cX8_falls 13 = .ok (.ifCond .ne 9, 3) := by decide +kernel
theorem dX8_falls_16 : decode cX8_falls 16 = .ok (.aload_n 0, 1) := by decide +kernel
theorem dX8_falls_17 : decode cX8_falls 17 = .ok (.iconst (-1), 1) := by decide +kernel
theorem dX8_falls_18 : decode cX8_falls 18 = .ok (.invokevirtual 52, 3) := by decide +kernel
theorem dX8_falls_21 : decode cX8_falls 21 = .ok (.ireturn, 1) := by decide +kernel
theorem dX8_falls_22 : decode cX8_falls 22 = .ok (.iload_n 1, 1) := by decide +kernel
theorem dX8_falls_23 : decode cX8_falls 23 = .ok (.iconst (-1), 1) := by decide +kernel
theorem dX8_falls_24 : decode cX8_falls 24 = .ok (.if_icmp .ne 8, 3) := by decide +kernel
theorem dX8_falls_27 : decode cX8_falls 27 = .ok (.bipush 63, 2) := by decide +kernel
theorem dX8_falls_29 : decode cX8_falls 29 = .ok (.goto 6, 3) := by decide +kernel
theorem dX8_falls_32 : decode cX8_falls 32 = .ok (.iconst 1, 1) := by decide +kernel
theorem dX8_falls_33 : decode cX8_falls 33 = .ok (.iload_n 1, 1) := by decide +kernel
theorem dX8_falls_34 : decode cX8_falls 34 = .ok (.ishl, 1) := by decide +kernel
theorem dX8_falls_35 : decode cX8_falls 35 = .ok (.istore_n 2, 1) := by decide +kernel
theorem dX8_falls_36 : decode cX8_falls 36 = .ok (.aload_n 0, 1) := by decide +kernel
theorem dX8_falls_37 : decode cX8_falls 37 = .ok (.getfield 16, 3) := by decide +kernel
theorem dX8_falls_40 : decode cX8_falls 40 = .ok (.aload_n 0, 1) := by decide +kernel
theorem dX8_falls_41 : decode cX8_falls 41 = .ok (.getfield 10, 3) := by decide +kernel
theorem dX8_falls_44 : decode cX8_falls 44 = .ok (.invokevirtual 63, 3) := by decide +kernel
theorem dX8_falls_47 : decode cX8_falls 47 = .ok (.aload_n 0, 1) := by decide +kernel
theorem dX8_falls_48 : decode cX8_falls 48 = .ok (.iload_n 2, 1) := by decide +kernel
theorem dX8_falls_49 : decode cX8_falls 49 = .ok (.bipush 60, 2) := by decide +kernel
theorem dX8_falls_51 : decode cX8_falls 51 = .ok (.invokevirtual 163, 3) := by decide +kernel
theorem dX8_falls_54 : decode cX8_falls 54 = .ok (.istore_n 3, 1) := by decide +kernel
theorem dX8_falls_55 : decode cX8_falls 55 = .ok (.iload_n 3, 1) := by decide +kernel
theorem dX8_falls_56 : decode cX8_falls 56 = .ok (.bipush (-9), 2) := by decide +kernel
theorem dX8_falls_58 : decode cX8_falls 58 = .ok (.if_icmp .eq 8, 3) := by decide +kernel
theorem dX8_falls_61 : decode cX8_falls 61 = .ok (.iload_n 1, 1) := by decide +kernel
theorem dX8_falls_62 : decode cX8_falls 62 = .ok (.iconst (-1), 1) := by decide +kernel
theorem dX8_falls_63 : decode cX8_falls 63 = .ok (.if_icmp .eq 5, 3) := by decide +kernel
theorem dX8_falls_66 : decode cX8_falls 66 = .ok (.iload_n 3, 1) := by decide +kernel
theorem dX8_falls_67 : decode cX8_falls 67 = .ok (.ireturn, 1) := by decide +kernel
theorem dX8_falls_68 : decode cX8_falls 68 = .ok (.aload_n 0, 1) := by decide +kernel
theorem dX8_falls_69 : decode cX8_falls 69 = .ok (.getfield 16, 3) := by decide +kernel
theorem dX8_falls_72 : decode cX8_falls 72 = .ok (.invokevirtual 166, 3) := by decide +kernel
theorem dX8_falls_75 : decode cX8_falls 75 = .ok (.invokestatic 169, 3) := by decide +kernel
theorem dX8_falls_78 : decode cX8_falls 78 = .ok (.ireturn, 1) := by decide +kernel
theorem dX8_still_0 : decode cX8_still 0 = .ok (.aload_n 0, 1) := by decide +kernel
theorem dX8_still_1 : decode cX8_still 1 = .ok (.getfield 16, 3) := by decide +kernel
theorem dX8_still_4 : decode cX8_still 4 = .ok (.aload_n 0, 1) := by decide +kernel
theorem dX8_still_5 : decode cX8_still 5 = .ok (.getfield 10, 3) := by decide +kernel
theorem dX8_still_8 : decode cX8_still 8 = .ok (.invokevirtual 63, 3) := by decide +kernel
theorem dX8_still_11 : decode cX8_still 11 = .ok (.iconst 0, 1) := by decide +kernel
theorem dX8_still_12 : decode cX8_still 12 = .ok (.istore_n 1, 1) := by decide +kernel
theorem dX8_still_13 : decode cX8_still 13 = .ok (.iconst 1, 1) := by decide +kernel
theorem dX8_still_14 : decode cX8_still 14 = .ok (.istore_n 2, 1) := by decide +kernel
theorem dX8_still_15 : decode cX8_still 15 = .ok (.iload_n 2, 1) := by decide +kernel
theorem dX8_still_16 : decode cX8_still 16 = .ok (.bipush 74, 2) := by decide +kernel
theorem dX8_still_18 : decode cX8_still 18 = .ok (.if_icmp .gt 40, 3) := by decide +kernel
theorem dX8_still_21 : decode cX8_still 21 = .ok (.aload_n 0, 1) := by decide +kernel
theorem dX8_still_22 : decode cX8_still 22 = .ok (.getfield 16, 3) := by decide +kernel
theorem dX8_still_25 : decode cX8_still 25 = .ok (.iconst 1, 1) := by decide +kernel
theorem dX8_still_26 : decode cX8_still 26 = .ok (.iconst 0, 1) := by decide +kernel
theorem dX8_still_27 : decode cX8_still 27 = .ok (.invokevirtual 151, 3) := by decide +kernel
theorem dX8_still_30 : decode cX8_still 30 = .ok (.ifCond .ne 9, 3) := by decide +kernel
theorem dX8_still_33 : decode cX8_still 33 = .ok (.iload_n 1, 1) := by decide +kernel
theorem dX8_still_34 : decode cX8_still 34 = .ok (.iconst 1, 1) := by decide +kernel
theorem dX8_still_35 : decode cX8_still 35 = .ok (.iadd, 1) := by decide +kernel
theorem dX8_still_36 : decode cX8_still 36 = .ok (.goto 4, 3) := by decide +kernel
theorem dX8_still_39 : decode cX8_still 39 = .ok (.iconst 0, 1) := by decide +kernel
theorem dX8_still_40 : decode cX8_still 40 = .ok (.istore_n 1, 1) := by decide +kernel
theorem dX8_still_41 : decode cX8_still 41 = .ok (.iload_n 1, 1) := by decide +kernel
theorem dX8_still_42 : decode cX8_still 42 = .ok (.bipush 14, 2) := by decide +kernel
theorem dX8_still_44 : decode cX8_still 44 = .ok (.if_icmp .ne 8, 3) := by decide +kernel
theorem dX8_still_47 : decode cX8_still 47 = .ok (.iload_n 2, 1) := by decide +kernel
theorem dX8_still_48 : decode cX8_still 48 = .ok (.bipush 14, 2) := by decide +kernel
theorem dX8_still_50 : decode cX8_still 50 = .ok (.isub, 1) := by decide +kernel
theorem dX8_still_51 : decode cX8_still 51 = .ok (.ireturn, 1) := by decide +kernel
theorem dX8_still_52 : decode cX8_still 52 = .ok (.iinc 2 1, 3) := by decide +kernel
theorem dX8_still_55 : decode cX8_still 55 = .ok (.goto (-40), 3) := by decide +kernel
theorem dX8_still_58 : decode cX8_still 58 = .ok (.bipush (-9), 2) := by decide +kernel
theorem dX8_still_60 : decode cX8_still 60 = .ok (.ireturn, 1) := by decide +kernel
theorem dX8_strike_0 : decode cX8_strike 0 = .ok (.iload_n 1, 1) := by decide +kernel
theorem dX8_strike_1 : decode cX8_strike 1 = .ok (.tableswitch 70 0 3 #[31, 39, 54, 62], 31) := by decide +kernel
theorem dX8_strike_32 : decode cX8_strike 32 = .ok (.aload_n 0, 1) := by decide +kernel
theorem dX8_strike_33 : decode cX8_strike 33 = .ok (.getfield 10, 3) := by decide +kernel
theorem dX8_strike_36 : decode cX8_strike 36 = .ok (.invokevirtual 174, 3) := by decide +kernel
theorem dX8_strike_39 : decode cX8_strike 39 = .ok (.ireturn, 1) := by decide +kernel
theorem dX8_strike_40 : decode cX8_strike 40 = .ok (.aload_n 0, 1) := by decide +kernel
theorem dX8_strike_41 : decode cX8_strike 41 = .ok (.getfield 10, 3) := by decide +kernel
theorem dX8_strike_44 : decode cX8_strike 44 = .ok (.aload_n 0, 1) := by decide +kernel
theorem dX8_strike_45 : decode cX8_strike 45 = .ok (.getfield 10, 3) := by decide +kernel
theorem dX8_strike_48 : decode cX8_strike 48 = .ok (.invokevirtual 174, 3) := by decide +kernel
theorem dX8_strike_51 : decode cX8_strike 51 = .ok (.invokevirtual 177, 3) := by decide +kernel
theorem dX8_strike_54 : decode cX8_strike 54 = .ok (.ireturn, 1) := by decide +kernel
theorem dX8_strike_55 : decode cX8_strike 55 = .ok (.aload_n 0, 1) := by decide +kernel
theorem dX8_strike_56 : decode cX8_strike 56 = .ok (.getfield 10, 3) := by decide +kernel
theorem dX8_strike_59 : decode cX8_strike 59 = .ok (.invokevirtual 180, 3) := by decide +kernel
theorem dX8_strike_62 : decode cX8_strike 62 = .ok (.ireturn, 1) := by decide +kernel
theorem dX8_strike_63 : decode cX8_strike 63 = .ok (.aload_n 0, 1) := by decide +kernel
theorem dX8_strike_64 : decode cX8_strike 64 = .ok (.getfield 10, 3) := by decide +kernel
theorem dX8_strike_67 : decode cX8_strike 67 = .ok (.invokevirtual 183, 3) := by decide +kernel
theorem dX8_strike_70 : decode cX8_strike 70 = .ok (.ireturn, 1) := by decide +kernel
theorem dX8_strike_71 : decode cX8_strike 71 = .ok (.aload_n 0, 1) := by decide +kernel
theorem dX8_strike_72 : decode cX8_strike 72 = .ok (.bipush (-2), 2) := by decide +kernel
theorem dX8_strike_74 : decode cX8_strike 74 = .ok (.invokevirtual 52, 3) := by decide +kernel
theorem dX8_strike_77 : decode cX8_strike 77 = .ok (.ireturn, 1) := by decide +kernel
theorem dX8_meet_0 : decode cX8_meet 0 = .ok (.aload_n 0, 1) := by decide +kernel
theorem dX8_meet_1 : decode cX8_meet 1 = .ok (.iload_n 1, 1) := by decide +kernel
theorem dX8_meet_2 : decode cX8_meet 2 = .ok (.iload_n 2, 1) := by decide +kernel
theorem dX8_meet_3 : decode cX8_meet 3 = .ok (.invokevirtual 136, 3) := by decide +kernel
theorem dX8_meet_6 : decode cX8_meet 6 = .ok (.ifCond .ne 9, 3) := by decide +kernel
theorem dX8_meet_9 : decode cX8_meet 9 = .ok (.aload_n 0, 1) := by decide +kernel
theorem dX8_meet_10 : decode cX8_meet 10 = .ok (.iconst (-1), 1) := by decide +kernel
theorem dX8_meet_11 : decode cX8_meet 11 = .ok (.invokevirtual 52, 3) := by decide +kernel
theorem dX8_meet_14 : decode cX8_meet 14 = .ok (.ireturn, 1) := by decide +kernel
theorem dX8_meet_15 : decode cX8_meet 15 = .ok (.aload_n 0, 1) := by decide +kernel
theorem dX8_meet_16 : decode cX8_meet 16 = .ok (.getfield 10, 3) := by decide +kernel
theorem dX8_meet_19 : decode cX8_meet 19 = .ok (.iload_n 1, 1) := by decide +kernel
theorem dX8_meet_20 : decode cX8_meet 20 = .ok (.iload_n 2, 1) := by decide +kernel
theorem dX8_meet_21 : decode cX8_meet 21 = .ok (.invokevirtual 186, 3) := by decide +kernel
theorem dX8_meet_24 : decode cX8_meet 24 = .ok (.ireturn, 1) := by decide +kernel
theorem dX8_never_0 : decode cX8_never 0 = .ok (.iload_n 1, 1) := by decide +kernel
theorem dX8_never_1 : decode cX8_never 1 = .ok (.invokestatic 115, 3) := by decide +kernel
theorem dX8_never_4 : decode cX8_never 4 = .ok (.ifCond .ne 10, 3) := by decide +kernel
theorem dX8_never_7 : decode cX8_never 7 = .ok (.aload_n 0, 1) := by decide +kernel
theorem dX8_never_8 : decode cX8_never 8 = .ok (.bipush (-2), 2) := by decide +kernel
theorem dX8_never_10 : decode cX8_never 10 = .ok (.invokevirtual 52, 3) := by decide +kernel
theorem dX8_never_13 : decode cX8_never 13 = .ok (.ireturn, 1) := by decide +kernel
theorem dX8_never_14 : decode cX8_never 14 = .ok (.iconst 0, 1) := by decide +kernel
theorem dX8_never_15 : decode cX8_never 15 = .ok (.istore_n 2, 1) := by decide +kernel
theorem dX8_never_16 : decode cX8_never 16 = .ok (.bipush (-9), 2) := by decide +kernel
theorem dX8_never_18 : decode cX8_never 18 = .ok (.istore_n 3, 1) := by decide +kernel
theorem dX8_never_19 : decode cX8_never 19 = .ok (.iconst 0, 1) := by decide +kernel
theorem dX8_never_20 : decode cX8_never 20 = .ok (.istore 4, 2) := by decide +kernel
theorem dX8_never_22 : decode cX8_never 22 = .ok (.iload 4, 2) := by decide +kernel
theorem dX8_never_24 : decode cX8_never 24 = .ok (.aload_n 0, 1) := by decide +kernel
theorem dX8_never_25 : decode cX8_never 25 = .ok (.getfield 10, 3) := by decide +kernel
theorem dX8_never_28 : decode cX8_never 28 = .ok (.getfield 189, 3) := by decide +kernel
theorem dX8_never_31 : decode cX8_never 31 = .ok (.if_icmp .ge 69, 3) := by decide +kernel
theorem dX8_never_34 : decode cX8_never 34 = .ok (.iload 4, 2) := by decide +kernel
theorem dX8_never_36 : decode cX8_never 36 = .ok (.iconst 1, 1) := by decide +kernel
theorem dX8_never_37 : decode cX8_never 37 = .ok (.iadd, 1) := by decide +kernel
theorem dX8_never_38 : decode cX8_never 38 = .ok (.istore 5, 2) := by decide +kernel
theorem dX8_never_40 : decode cX8_never 40 = .ok (.iload 5, 2) := by decide +kernel
theorem dX8_never_42 : decode cX8_never 42 = .ok (.aload_n 0, 1) := by decide +kernel
theorem dX8_never_43 : decode cX8_never 43 = .ok (.getfield 10, 3) := by decide +kernel
theorem dX8_never_46 : decode cX8_never 46 = .ok (.getfield 189, 3) := by decide +kernel
theorem dX8_never_49 : decode cX8_never 49 = .ok (.if_icmp .ge 45, 3) := by decide +kernel
theorem dX8_never_52 : decode cX8_never 52 = .ok (.aload_n 0, 1) := by decide +kernel
theorem dX8_never_53 : decode cX8_never 53 = .ok (.getfield 10, 3) := by decide +kernel
theorem dX8_never_56 : decode cX8_never 56 = .ok (.iload 4, 2) := by decide +kernel
theorem dX8_never_58 : decode cX8_never 58 = .ok (.iload 5, 2) := by decide +kernel
theorem dX8_never_60 : decode cX8_never 60 = .ok (.invokevirtual 186, 3) := by decide +kernel
theorem dX8_never_63 : decode cX8_never 63 = .ok (.ifCond .ne 25, 3) := by decide +kernel
theorem dX8_never_66 : decode cX8_never 66 = .ok (.iinc 2 1, 3) := by decide +kernel
theorem dX8_never_69 : decode cX8_never 69 = .ok (.iload_n 3, 1) := by decide +kernel
theorem dX8_never_70 : decode cX8_never 70 = .ok (.bipush (-9), 2) := by decide +kernel
theorem dX8_never_72 : decode cX8_never 72 = .ok (.if_icmp .ne 14, 3) := by decide +kernel
theorem dX8_never_75 : decode cX8_never 75 = .ok (.bipush 10, 2) := by decide +kernel
theorem dX8_never_77 : decode cX8_never 77 = .ok (.iload 4, 2) := by decide +kernel
theorem dX8_never_79 : decode cX8_never 79 = .ok (.imul, 1) := by decide +kernel
theorem dX8_never_80 : decode cX8_never 80 = .ok (.iload 5, 2) := by decide +kernel
theorem dX8_never_82 : decode cX8_never 82 = .ok (.iadd, 1) := by decide +kernel
theorem dX8_never_83 : decode cX8_never 83 = .ok (.goto 4, 3) := by decide +kernel
theorem dX8_never_86 : decode cX8_never 86 = .ok (.iload_n 3, 1) := by decide +kernel
theorem dX8_never_87 : decode cX8_never 87 = .ok (.istore_n 3, 1) := by decide +kernel
theorem dX8_never_88 : decode cX8_never 88 = .ok (.iinc 5 1, 3) := by decide +kernel
theorem dX8_never_91 : decode cX8_never 91 = .ok (.goto (-51), 3) := by decide +kernel
theorem dX8_never_94 : decode cX8_never 94 = .ok (.iinc 4 1, 3) := by decide +kernel
theorem dX8_never_97 : decode cX8_never 97 = .ok (.goto (-75), 3) := by decide +kernel
theorem dX8_never_100 : decode cX8_never 100 = .ok (.iload_n 1, 1) := by decide +kernel
theorem dX8_never_101 : decode cX8_never 101 = .ok (.ifCond .ne 7, 3) := by decide +kernel
theorem dX8_never_104 : decode cX8_never 104 = .ok (.iload_n 2, 1) := by decide +kernel
theorem dX8_never_105 : decode cX8_never 105 = .ok (.goto 4, 3) := by decide +kernel
theorem dX8_never_108 : decode cX8_never 108 = .ok (.iload_n 3, 1) := by decide +kernel
theorem dX8_never_109 : decode cX8_never 109 = .ok (.ireturn, 1) := by decide +kernel
theorem dX8_rest_0 : decode cX8_rest 0 = .ok (.aload_n 0, 1) := by decide +kernel
theorem dX8_rest_1 : decode cX8_rest 1 = .ok (.getfield 10, 3) := by decide +kernel
theorem dX8_rest_4 : decode cX8_rest 4 = .ok (.iload_n 1, 1) := by decide +kernel
theorem dX8_rest_5 : decode cX8_rest 5 = .ok (.invokevirtual 87, 3) := by decide +kernel
theorem dX8_rest_8 : decode cX8_rest 8 = .ok (.ifCond .ne 9, 3) := by decide +kernel
theorem dX8_rest_11 : decode cX8_rest 11 = .ok (.aload_n 0, 1) := by decide +kernel
theorem dX8_rest_12 : decode cX8_rest 12 = .ok (.iconst (-1), 1) := by decide +kernel
theorem dX8_rest_13 : decode cX8_rest 13 = .ok (.invokevirtual 52, 3) := by decide +kernel
theorem dX8_rest_16 : decode cX8_rest 16 = .ok (.ireturn, 1) := by decide +kernel
theorem dX8_rest_17 : decode cX8_rest 17 = .ok (.iconst 0, 1) := by decide +kernel
theorem dX8_rest_18 : decode cX8_rest 18 = .ok (.istore_n 2, 1) := by decide +kernel
theorem dX8_rest_19 : decode cX8_rest 19 = .ok (.iconst 0, 1) := by decide +kernel
theorem dX8_rest_20 : decode cX8_rest 20 = .ok (.istore_n 3, 1) := by decide +kernel
theorem dX8_rest_21 : decode cX8_rest 21 = .ok (.iconst 0, 1) := by decide +kernel
theorem dX8_rest_22 : decode cX8_rest 22 = .ok (.istore 4, 2) := by decide +kernel
theorem dX8_rest_24 : decode cX8_rest 24 = .ok (.iload 4, 2) := by decide +kernel
theorem dX8_rest_26 : decode cX8_rest 26 = .ok (.bipush 14, 2) := by decide +kernel
theorem dX8_rest_28 : decode cX8_rest 28 = .ok (.if_icmp .ge 39, 3) := by decide +kernel
theorem dX8_rest_31 : decode cX8_rest 31 = .ok (.aload_n 0, 1) := by decide +kernel
theorem dX8_rest_32 : decode cX8_rest 32 = .ok (.getfield 10, 3) := by decide +kernel
theorem dX8_rest_35 : decode cX8_rest 35 = .ok (.iload_n 1, 1) := by decide +kernel
theorem dX8_rest_36 : decode cX8_rest 36 = .ok (.iload 4, 2) := by decide +kernel
theorem dX8_rest_38 : decode cX8_rest 38 = .ok (.bipush 7, 2) := by decide +kernel
theorem dX8_rest_40 : decode cX8_rest 40 = .ok (.irem, 1) := by decide +kernel
theorem dX8_rest_41 : decode cX8_rest 41 = .ok (.invokevirtual 190, 3) := by decide +kernel
theorem dX8_rest_44 : decode cX8_rest 44 = .ok (.ifCond .eq 9, 3) := by decide +kernel
theorem dX8_rest_47 : decode cX8_rest 47 = .ok (.iload_n 3, 1) := by decide +kernel
theorem dX8_rest_48 : decode cX8_rest 48 = .ok (.iconst 1, 1) := by decide +kernel
theorem dX8_rest_49 : decode cX8_rest 49 = .ok (.iadd, 1) := by decide +kernel
theorem dX8_rest_50 : decode cX8_rest 50 = .ok (.goto 4, 3) := by decide +kernel
theorem dX8_rest_53 : decode cX8_rest 53 = .ok (.iconst 0, 1) := by decide +kernel
theorem dX8_rest_54 : decode cX8_rest 54 = .ok (.istore_n 3, 1) := by decide +kernel
theorem dX8_rest_55 : decode cX8_rest 55 = .ok (.iload_n 2, 1) := by decide +kernel
theorem dX8_rest_56 : decode cX8_rest 56 = .ok (.iload_n 3, 1) := by decide +kernel
theorem dX8_rest_57 : decode cX8_rest 57 = .ok (.invokestatic 193, 3) := by decide +kernel
theorem dX8_rest_60 : decode cX8_rest 60 = .ok (.istore_n 2, 1) := by decide +kernel
theorem dX8_rest_61 : decode cX8_rest 61 = .ok (.iinc 4 1, 3) := by decide +kernel
theorem dX8_rest_64 : decode cX8_rest 64 = .ok (.goto (-40), 3) := by decide +kernel
theorem dX8_rest_67 : decode cX8_rest 67 = .ok (.iload_n 2, 1) := by decide +kernel
theorem dX8_rest_68 : decode cX8_rest 68 = .ok (.bipush 7, 2) := by decide +kernel
theorem dX8_rest_70 : decode cX8_rest 70 = .ok (.invokestatic 198, 3) := by decide +kernel
theorem dX8_rest_73 : decode cX8_rest 73 = .ok (.ireturn, 1) := by decide +kernel
theorem dX8_gift_0 : decode cX8_gift 0 = .ok (.aload_n 0, 1) := by decide +kernel
theorem dX8_gift_1 : decode cX8_gift 1 = .ok (.getfield 10, 3) := by decide +kernel
theorem dX8_gift_4 : decode cX8_gift 4 = .ok (.iload_n 1, 1) := by decide +kernel
theorem dX8_gift_5 : decode cX8_gift 5 = .ok (.invokevirtual 87, 3) := by decide +kernel
theorem dX8_gift_8 : decode cX8_gift 8 = .ok (.ifCond .eq 10, 3) := by decide +kernel
theorem dX8_gift_11 : decode cX8_gift 11 = .ok (.iload_n 2, 1) := by decide +kernel
theorem dX8_gift_12 : decode cX8_gift 12 = .ok (.invokestatic 129, 3) := by decide +kernel
theorem dX8_gift_15 : decode cX8_gift 15 = .ok (.ifCond .ne 9, 3) := by decide +kernel
theorem dX8_gift_18 : decode cX8_gift 18 = .ok (.aload_n 0, 1) := by decide +kernel
theorem dX8_gift_19 : decode cX8_gift 19 = .ok (.iconst (-1), 1) := by decide +kernel
theorem dX8_gift_20 : decode cX8_gift 20 = .ok (.invokevirtual 52, 3) := by decide +kernel
theorem dX8_gift_23 : decode cX8_gift 23 = .ok (.ireturn, 1) := by decide +kernel
theorem dX8_gift_24 : decode cX8_gift 24 = .ok (.iload_n 3, 1) := by decide +kernel
theorem dX8_gift_25 : decode cX8_gift 25 = .ok (.iconst 0, 1) := by decide +kernel
theorem dX8_gift_26 : decode cX8_gift 26 = .ok (.bipush 30, 2) := by decide +kernel
theorem dX8_gift_28 : decode cX8_gift 28 = .ok (.invokestatic 44, 3) := by decide +kernel
theorem dX8_gift_31 : decode cX8_gift 31 = .ok (.istore 4, 2) := by decide +kernel
theorem dX8_gift_33 : decode cX8_gift 33 = .ok (.iload 4, 2) := by decide +kernel
theorem dX8_gift_35 : decode cX8_gift 35 = .ok (.ifCond .eq 10, 3) := by decide +kernel
theorem dX8_gift_38 : decode cX8_gift 38 = .ok (.aload_n 0, 1) := by decide +kernel
theorem dX8_gift_39 : decode cX8_gift 39 = .ok (.iload 4, 2) := by decide +kernel
theorem dX8_gift_41 : decode cX8_gift 41 = .ok (.invokevirtual 52, 3) := by decide +kernel
theorem dX8_gift_44 : decode cX8_gift 44 = .ok (.ireturn, 1) := by decide +kernel
theorem dX8_gift_45 : decode cX8_gift 45 = .ok (.aload_n 0, 1) := by decide +kernel
theorem dX8_gift_46 : decode cX8_gift 46 = .ok (.getfield 10, 3) := by decide +kernel
theorem dX8_gift_49 : decode cX8_gift 49 = .ok (.iload_n 1, 1) := by decide +kernel
theorem dX8_gift_50 : decode cX8_gift 50 = .ok (.iload_n 2, 1) := by decide +kernel
theorem dX8_gift_51 : decode cX8_gift 51 = .ok (.invokevirtual 190, 3) := by decide +kernel
theorem dX8_gift_54 : decode cX8_gift 54 = .ok (.ifCond .ne 10, 3) := by decide +kernel
theorem dX8_gift_57 : decode cX8_gift 57 = .ok (.aload_n 0, 1) := by decide +kernel
theorem dX8_gift_58 : decode cX8_gift 58 = .ok (.bipush (-3), 2) := by decide +kernel
theorem dX8_gift_60 : decode cX8_gift 60 = .ok (.invokevirtual 52, 3) := by decide +kernel
theorem dX8_gift_63 : decode cX8_gift 63 = .ok (.ireturn, 1) := by decide +kernel
theorem dX8_gift_64 : decode cX8_gift 64 = .ok (.aload_n 0, 1) := by decide +kernel
theorem dX8_gift_65 : decode cX8_gift 65 = .ok (.getfield 16, 3) := by decide +kernel
theorem dX8_gift_68 : decode cX8_gift 68 = .ok (.aload_n 0, 1) := by decide +kernel
theorem dX8_gift_69 : decode cX8_gift 69 = .ok (.getfield 10, 3) := by decide +kernel
theorem dX8_gift_72 : decode cX8_gift 72 = .ok (.invokevirtual 63, 3) := by decide +kernel
theorem dX8_gift_75 : decode cX8_gift 75 = .ok (.aload_n 0, 1) := by decide +kernel
theorem dX8_gift_76 : decode cX8_gift 76 = .ok (.iload_n 3, 1) := by decide +kernel
theorem dX8_gift_77 : decode cX8_gift 77 = .ok (.invokevirtual 201, 3) := by decide +kernel
theorem dX8_gift_80 : decode cX8_gift 80 = .ok (.istore 5, 2) := by decide +kernel
theorem dX8_gift_82 : decode cX8_gift 82 = .ok (.bipush (-9), 2) := by decide +kernel
theorem dX8_gift_84 : decode cX8_gift 84 = .ok (.istore 6, 2) := by decide +kernel
theorem dX8_gift_86 : decode cX8_gift 86 = .ok (.iconst 0, 1) := by decide +kernel
theorem dX8_gift_87 : decode cX8_gift 87 = .ok (.istore 7, 2) := by decide +kernel
theorem dX8_gift_89 : decode cX8_gift 89 = .ok (.iload 7, 2) := by decide +kernel
theorem dX8_gift_91 : decode cX8_gift 91 = .ok (.aload_n 0, 1) := by decide +kernel
theorem dX8_gift_92 : decode cX8_gift 92 = .ok (.getfield 10, 3) := by decide +kernel
theorem dX8_gift_95 : decode cX8_gift 95 = .ok (.getfield 189, 3) := by decide +kernel
theorem dX8_gift_98 : decode cX8_gift 98 = .ok (.if_icmp .ge 83, 3) := by decide +kernel
theorem dX8_gift_101 : decode cX8_gift 101 = .ok (.iload 7, 2) := by decide +kernel
theorem dX8_gift_103 : decode cX8_gift 103 = .ok (.iload_n 1, 1) := by decide +kernel
theorem dX8_gift_104 : decode cX8_gift 104 = .ok (.if_icmp .eq 71, 3) := by decide +kernel
theorem dX8_gift_107 : decode cX8_gift 107 = .ok (.aload_n 0, 1) := by decide +kernel
theorem dX8_gift_108 : decode cX8_gift 108 = .ok (.getfield 10, 3) := by decide +kernel
theorem dX8_gift_111 : decode cX8_gift 111 = .ok (.iload_n 1, 1) := by decide +kernel
theorem dX8_gift_112 : decode cX8_gift 112 = .ok (.iload 7, 2) := by decide +kernel
theorem dX8_gift_114 : decode cX8_gift 114 = .ok (.iload_n 2, 1) := by decide +kernel
theorem dX8_gift_115 : decode cX8_gift 115 = .ok (.invokevirtual 140, 3) := by decide +kernel
theorem dX8_gift_118 : decode cX8_gift 118 = .ok (.ifCond .eq 57, 3) := by decide +kernel
theorem dX8_gift_121 : decode cX8_gift 121 = .ok (.aload_n 0, 1) := by decide +kernel
theorem dX8_gift_122 : decode cX8_gift 122 = .ok (.getfield 16, 3) := by decide +kernel
theorem dX8_gift_125 : decode cX8_gift 125 = .ok (.aload_n 0, 1) := by decide +kernel
theorem dX8_gift_126 : decode cX8_gift 126 = .ok (.getfield 10, 3) := by decide +kernel
theorem dX8_gift_129 : decode cX8_gift 129 = .ok (.invokevirtual 63, 3) := by decide +kernel
theorem dX8_gift_132 : decode cX8_gift 132 = .ok (.aload_n 0, 1) := by decide +kernel
theorem dX8_gift_133 : decode cX8_gift 133 = .ok (.getfield 16, 3) := by decide +kernel
theorem dX8_gift_136 : decode cX8_gift 136 = .ok (.iload_n 1, 1) := by decide +kernel
theorem dX8_gift_137 : decode cX8_gift 137 = .ok (.iload 7, 2) := by decide +kernel
theorem dX8_gift_139 : decode cX8_gift 139 = .ok (.iload_n 2, 1) := by decide +kernel
theorem dX8_gift_140 : decode cX8_gift 140 = .ok (.invokevirtual 144, 3) := by decide +kernel
theorem dX8_gift_143 : decode cX8_gift 143 = .ok (.aload_n 0, 1) := by decide +kernel
theorem dX8_gift_144 : decode cX8_gift 144 = .ok (.iload_n 3, 1) := by decide +kernel
theorem dX8_gift_145 : decode cX8_gift 145 = .ok (.invokevirtual 201, 3) := by decide +kernel
theorem dX8_gift_148 : decode cX8_gift 148 = .ok (.istore 8, 2) := by decide +kernel
theorem dX8_gift_150 : decode cX8_gift 150 = .ok (.iload 8, 2) := by decide +kernel
theorem dX8_gift_152 : decode cX8_gift 152 = .ok (.iload 5, 2) := by decide +kernel
theorem dX8_gift_154 : decode cX8_gift 154 = .ok (.if_icmp .ge 8, 3) := by decide +kernel
theorem dX8_gift_157 : decode cX8_gift 157 = .ok (.iload 7, 2) := by decide +kernel
theorem dX8_gift_159 : decode cX8_gift 159 = .ok (.goto 5, 3) := by decide +kernel
theorem dX8_gift_162 : decode cX8_gift 162 = .ok (.iload 6, 2) := by decide +kernel
theorem dX8_gift_164 : decode cX8_gift 164 = .ok (.istore 6, 2) := by decide +kernel
theorem dX8_gift_166 : decode cX8_gift 166 = .ok (.iload 5, 2) := by decide +kernel
theorem dX8_gift_168 : decode cX8_gift 168 = .ok (.iload 8, 2) := by decide +kernel
theorem dX8_gift_170 : decode cX8_gift 170 = .ok (.invokestatic 198, 3) := by decide +kernel
theorem dX8_gift_173 : decode cX8_gift 173 = .ok (.istore 5, 2) := by decide +kernel
theorem dX8_gift_175 : decode cX8_gift 175 = .ok (.iinc 7 1, 3) := by decide +kernel
theorem dX8_gift_178 : decode cX8_gift 178 = .ok (.goto (-89), 3) := by decide +kernel
theorem dX8_gift_181 : decode cX8_gift 181 = .ok (.iload 6, 2) := by decide +kernel
theorem dX8_gift_183 : decode cX8_gift 183 = .ok (.ireturn, 1) := by decide +kernel
theorem dX8_trade_0 : decode cX8_trade 0 = .ok (.aload_n 0, 1) := by decide +kernel
theorem dX8_trade_1 : decode cX8_trade 1 = .ok (.iload_n 1, 1) := by decide +kernel
theorem dX8_trade_2 : decode cX8_trade 2 = .ok (.iload_n 2, 1) := by decide +kernel
theorem dX8_trade_3 : decode cX8_trade 3 = .ok (.invokevirtual 136, 3) := by decide +kernel
theorem dX8_trade_6 : decode cX8_trade 6 = .ok (.ifCond .ne 9, 3) := by decide +kernel
theorem dX8_trade_9 : decode cX8_trade 9 = .ok (.aload_n 0, 1) := by decide +kernel
theorem dX8_trade_10 : decode cX8_trade 10 = .ok (.iconst (-1), 1) := by decide +kernel
theorem dX8_trade_11 : decode cX8_trade 11 = .ok (.invokevirtual 52, 3) := by decide +kernel
theorem dX8_trade_14 : decode cX8_trade 14 = .ok (.ireturn, 1) := by decide +kernel
theorem dX8_trade_15 : decode cX8_trade 15 = .ok (.iload_n 3, 1) := by decide +kernel
theorem dX8_trade_16 : decode cX8_trade 16 = .ok (.iconst 0, 1) := by decide +kernel
theorem dX8_trade_17 : decode cX8_trade 17 = .ok (.bipush 30, 2) := by decide +kernel
theorem dX8_trade_19 : decode cX8_trade 19 = .ok (.invokestatic 44, 3) := by decide +kernel
theorem dX8_trade_22 : decode cX8_trade 22 = .ok (.istore 4, 2) := by decide +kernel
theorem dX8_trade_24 : decode cX8_trade 24 = .ok (.iload 4, 2) := by decide +kernel
theorem dX8_trade_26 : decode cX8_trade 26 = .ok (.ifCond .eq 10, 3) := by decide +kernel
theorem dX8_trade_29 : decode cX8_trade 29 = .ok (.aload_n 0, 1) := by decide +kernel
theorem dX8_trade_30 : decode cX8_trade 30 = .ok (.iload 4, 2) := by decide +kernel
theorem dX8_trade_32 : decode cX8_trade 32 = .ok (.invokevirtual 52, 3) := by decide +kernel
theorem dX8_trade_35 : decode cX8_trade 35 = .ok (.ireturn, 1) := by decide +kernel
theorem dX8_trade_36 : decode cX8_trade 36 = .ok (.aload_n 0, 1) := by decide +kernel
theorem dX8_trade_37 : decode cX8_trade 37 = .ok (.getfield 16, 3) := by decide +kernel
theorem dX8_trade_40 : decode cX8_trade 40 = .ok (.aload_n 0, 1) := by decide +kernel
theorem dX8_trade_41 : decode cX8_trade 41 = .ok (.getfield 10, 3) := by decide +kernel
theorem dX8_trade_44 : decode cX8_trade 44 = .ok (.invokevirtual 63, 3) := by decide +kernel
theorem dX8_trade_47 : decode cX8_trade 47 = .ok (.aload_n 0, 1) := by decide +kernel
theorem dX8_trade_48 : decode cX8_trade 48 = .ok (.iload_n 1, 1) := by decide +kernel
theorem dX8_trade_49 : decode cX8_trade 49 = .ok (.iload_n 2, 1) := by decide +kernel
theorem dX8_trade_50 : decode cX8_trade 50 = .ok (.iload_n 3, 1) := by decide +kernel
theorem dX8_trade_51 : decode cX8_trade 51 = .ok (.invokevirtual 204, 3) := by decide +kernel
theorem dX8_trade_54 : decode cX8_trade 54 = .ok (.istore 5, 2) := by decide +kernel
theorem dX8_trade_56 : decode cX8_trade 56 = .ok (.bipush (-9), 2) := by decide +kernel
theorem dX8_trade_58 : decode cX8_trade 58 = .ok (.istore 6, 2) := by decide +kernel
theorem dX8_trade_60 : decode cX8_trade 60 = .ok (.iconst 0, 1) := by decide +kernel
theorem dX8_trade_61 : decode cX8_trade 61 = .ok (.istore 7, 2) := by decide +kernel
theorem dX8_trade_63 : decode cX8_trade 63 = .ok (.iload 7, 2) := by decide +kernel
theorem dX8_trade_65 : decode cX8_trade 65 = .ok (.bipush 7, 2) := by decide +kernel
theorem dX8_trade_67 : decode cX8_trade 67 = .ok (.if_icmp .ge 126, 3) := by decide +kernel
theorem dX8_trade_70 : decode cX8_trade 70 = .ok (.iconst 0, 1) := by decide +kernel
theorem dX8_trade_71 : decode cX8_trade 71 = .ok (.istore 8, 2) := by decide +kernel
theorem dX8_trade_73 : decode cX8_trade 73 = .ok (.iload 8, 2) := by decide +kernel
theorem dX8_trade_75 : decode cX8_trade 75 = .ok (.bipush 7, 2) := by decide +kernel
theorem dX8_trade_77 : decode cX8_trade 77 = .ok (.if_icmp .ge 110, 3) := by decide +kernel
theorem dX8_trade_80 : decode cX8_trade 80 = .ok (.aload_n 0, 1) := by decide +kernel
theorem dX8_trade_81 : decode cX8_trade 81 = .ok (.getfield 10, 3) := by decide +kernel
theorem dX8_trade_84 : decode cX8_trade 84 = .ok (.iload_n 1, 1) := by decide +kernel
theorem dX8_trade_85 : decode cX8_trade 85 = .ok (.iload_n 2, 1) := by decide +kernel
theorem dX8_trade_86 : decode cX8_trade 86 = .ok (.iload 7, 2) := by decide +kernel
theorem dX8_trade_88 : decode cX8_trade 88 = .ok (.invokevirtual 140, 3) := by decide +kernel
theorem dX8_trade_91 : decode cX8_trade 91 = .ok (.ifCond .eq 90, 3) := by decide +kernel
theorem dX8_trade_94 : decode cX8_trade 94 = .ok (.aload_n 0, 1) := by decide +kernel
theorem dX8_trade_95 : decode cX8_trade 95 = .ok (.getfield 10, 3) := by decide +kernel
theorem dX8_trade_98 : decode cX8_trade 98 = .ok (.iload_n 2, 1) := by decide +kernel
theorem dX8_trade_99 : decode cX8_trade 99 = .ok (.iload_n 1, 1) := by decide +kernel
theorem dX8_trade_100 : decode cX8_trade 100 = .ok (.iload 8, 2) := by decide +kernel
theorem dX8_trade_102 : decode cX8_trade 102 = .ok (.invokevirtual 140, 3) := by decide +kernel
theorem dX8_trade_105 : decode cX8_trade 105 = .ok (.ifCond .eq 76, 3) := by decide +kernel
theorem dX8_trade_108 : decode cX8_trade 108 = .ok (.aload_n 0, 1) := by decide +kernel
theorem dX8_trade_109 : decode cX8_trade 109 = .ok (.getfield 16, 3) := by decide +kernel
theorem dX8_trade_112 : decode cX8_trade 112 = .ok (.aload_n 0, 1) := by decide +kernel
theorem dX8_trade_113 : decode cX8_trade 113 = .ok (.getfield 10, 3) := by decide +kernel
theorem dX8_trade_116 : decode cX8_trade 116 = .ok (.invokevirtual 63, 3) := by decide +kernel
theorem dX8_trade_119 : decode cX8_trade 119 = .ok (.aload_n 0, 1) := by decide +kernel
theorem dX8_trade_120 : decode cX8_trade 120 = .ok (.getfield 16, 3) := by decide +kernel
theorem dX8_trade_123 : decode cX8_trade 123 = .ok (.iload_n 1, 1) := by decide +kernel
theorem dX8_trade_124 : decode cX8_trade 124 = .ok (.iload_n 2, 1) := by decide +kernel
theorem dX8_trade_125 : decode cX8_trade 125 = .ok (.iload 7, 2) := by decide +kernel
theorem dX8_trade_127 : decode cX8_trade 127 = .ok (.invokevirtual 144, 3) := by decide +kernel
theorem dX8_trade_130 : decode cX8_trade 130 = .ok (.aload_n 0, 1) := by decide +kernel
theorem dX8_trade_131 : decode cX8_trade 131 = .ok (.getfield 16, 3) := by decide +kernel
theorem dX8_trade_134 : decode cX8_trade 134 = .ok (.iload_n 2, 1) := by decide +kernel
theorem dX8_trade_135 : decode cX8_trade 135 = .ok (.iload_n 1, 1) := by decide +kernel
theorem dX8_trade_136 : decode cX8_trade 136 = .ok (.iload 8, 2) := by decide +kernel
theorem dX8_trade_138 : decode cX8_trade 138 = .ok (.invokevirtual 144, 3) := by decide +kernel
theorem dX8_trade_141 : decode cX8_trade 141 = .ok (.aload_n 0, 1) := by decide +kernel
theorem dX8_trade_142 : decode cX8_trade 142 = .ok (.iload_n 1, 1) := by decide +kernel
theorem dX8_trade_143 : decode cX8_trade 143 = .ok (.iload_n 2, 1) := by decide +kernel
theorem dX8_trade_144 : decode cX8_trade 144 = .ok (.iload_n 3, 1) := by decide +kernel
theorem dX8_trade_145 : decode cX8_trade 145 = .ok (.invokevirtual 204, 3) := by decide +kernel
theorem dX8_trade_148 : decode cX8_trade 148 = .ok (.istore 9, 2) := by decide +kernel
theorem dX8_trade_150 : decode cX8_trade 150 = .ok (.iload 9, 2) := by decide +kernel
theorem dX8_trade_152 : decode cX8_trade 152 = .ok (.iload 5, 2) := by decide +kernel
theorem dX8_trade_154 : decode cX8_trade 154 = .ok (.if_icmp .ge 14, 3) := by decide +kernel
theorem dX8_trade_157 : decode cX8_trade 157 = .ok (.bipush 10, 2) := by decide +kernel
theorem dX8_trade_159 : decode cX8_trade 159 = .ok (.iload 7, 2) := by decide +kernel
theorem dX8_trade_161 : decode cX8_trade 161 = .ok (.imul, 1) := by decide +kernel
theorem dX8_trade_162 : decode cX8_trade 162 = .ok (.iload 8, 2) := by decide +kernel
theorem dX8_trade_164 : decode cX8_trade 164 = .ok (.iadd, 1) := by decide +kernel
theorem dX8_trade_165 : decode cX8_trade 165 = .ok (.goto 5, 3) := by decide +kernel
theorem dX8_trade_168 : decode cX8_trade 168 = .ok (.iload 6, 2) := by decide +kernel
theorem dX8_trade_170 : decode cX8_trade 170 = .ok (.istore 6, 2) := by decide +kernel
theorem dX8_trade_172 : decode cX8_trade 172 = .ok (.iload 5, 2) := by decide +kernel
theorem dX8_trade_174 : decode cX8_trade 174 = .ok (.iload 9, 2) := by decide +kernel
theorem dX8_trade_176 : decode cX8_trade 176 = .ok (.invokestatic 198, 3) := by decide +kernel
theorem dX8_trade_179 : decode cX8_trade 179 = .ok (.istore 5, 2) := by decide +kernel
theorem dX8_trade_181 : decode cX8_trade 181 = .ok (.iinc 8 1, 3) := by decide +kernel
theorem dX8_trade_184 : decode cX8_trade 184 = .ok (.goto (-111), 3) := by decide +kernel
theorem dX8_trade_187 : decode cX8_trade 187 = .ok (.iinc 7 1, 3) := by decide +kernel
theorem dX8_trade_190 : decode cX8_trade 190 = .ok (.goto (-127), 3) := by decide +kernel
theorem dX8_trade_193 : decode cX8_trade 193 = .ok (.iload 6, 2) := by decide +kernel
theorem dX8_trade_195 : decode cX8_trade 195 = .ok (.ireturn, 1) := by decide +kernel
theorem dX8_better_0 : decode cX8_better 0 = .ok (.aload_n 0, 1) := by decide +kernel
theorem dX8_better_1 : decode cX8_better 1 = .ok (.getfield 10, 3) := by decide +kernel
theorem dX8_better_4 : decode cX8_better 4 = .ok (.iload_n 1, 1) := by decide +kernel
theorem dX8_better_5 : decode cX8_better 5 = .ok (.invokevirtual 87, 3) := by decide +kernel
theorem dX8_better_8 : decode cX8_better 8 = .ok (.ifCond .ne 9, 3) := by decide +kernel
theorem dX8_better_11 : decode cX8_better 11 = .ok (.aload_n 0, 1) := by decide +kernel
theorem dX8_better_12 : decode cX8_better 12 = .ok (.iconst (-1), 1) := by decide +kernel
theorem dX8_better_13 : decode cX8_better 13 = .ok (.invokevirtual 52, 3) := by decide +kernel
theorem dX8_better_16 : decode cX8_better 16 = .ok (.ireturn, 1) := by decide +kernel
theorem dX8_better_17 : decode cX8_better 17 = .ok (.iload_n 2, 1) := by decide +kernel
theorem dX8_better_18 : decode cX8_better 18 = .ok (.iconst 0, 1) := by decide +kernel
theorem dX8_better_19 : decode cX8_better 19 = .ok (.bipush 30, 2) := by decide +kernel
theorem dX8_better_21 : decode cX8_better 21 = .ok (.invokestatic 44, 3) := by decide +kernel
theorem dX8_better_24 : decode cX8_better 24 = .ok (.istore 4, 2) := by decide +kernel
theorem dX8_better_26 : decode cX8_better 26 = .ok (.iload 4, 2) := by decide +kernel
theorem dX8_better_28 : decode cX8_better 28 = .ok (.ifCond .eq 10, 3) := by decide +kernel
theorem dX8_better_31 : decode cX8_better 31 = .ok (.aload_n 0, 1) := by decide +kernel
theorem dX8_better_32 : decode cX8_better 32 = .ok (.iload 4, 2) := by decide +kernel
theorem dX8_better_34 : decode cX8_better 34 = .ok (.invokevirtual 52, 3) := by decide +kernel
theorem dX8_better_37 : decode cX8_better 37 = .ok (.ireturn, 1) := by decide +kernel
theorem dX8_better_38 : decode cX8_better 38 = .ok (.iload_n 3, 1) := by decide +kernel
theorem dX8_better_39 : decode cX8_better 39 = .ok (.invokestatic 115, 3) := by decide +kernel
theorem dX8_better_42 : decode cX8_better 42 = .ok (.ifCond .ne 10, 3) := by decide +kernel
theorem dX8_better_45 : decode cX8_better 45 = .ok (.aload_n 0, 1) := by decide +kernel
theorem dX8_better_46 : decode cX8_better 46 = .ok (.bipush (-2), 2) := by decide +kernel
theorem dX8_better_48 : decode cX8_better 48 = .ok (.invokevirtual 52, 3) := by decide +kernel
theorem dX8_better_51 : decode cX8_better 51 = .ok (.ireturn, 1) := by decide +kernel
theorem dX8_better_52 : decode cX8_better 52 = .ok (.ldc 207, 2) := by decide +kernel
theorem dX8_better_54 : decode cX8_better 54 = .ok (.istore 5, 2) := by decide +kernel
theorem dX8_better_56 : decode cX8_better 56 = .ok (.iconst 0, 1) := by decide +kernel
theorem dX8_better_57 : decode cX8_better 57 = .ok (.istore 6, 2) := by decide +kernel
theorem dX8_better_59 : decode cX8_better 59 = .ok (.iconst 0, 1) := by decide +kernel
theorem dX8_better_60 : decode cX8_better 60 = .ok (.istore 7, 2) := by decide +kernel
theorem dX8_better_62 : decode cX8_better 62 = .ok (.iload 7, 2) := by decide +kernel
theorem dX8_better_64 : decode cX8_better 64 = .ok (.bipush 6, 2) := by decide +kernel
theorem dX8_better_66 : decode cX8_better 66 = .ok (.if_icmp .ge 63, 3) := by decide +kernel
theorem dX8_better_69 : decode cX8_better 69 = .ok (.aload_n 0, 1) := by decide +kernel
theorem dX8_better_70 : decode cX8_better 70 = .ok (.getfield 16, 3) := by decide +kernel
theorem dX8_better_73 : decode cX8_better 73 = .ok (.aload_n 0, 1) := by decide +kernel
theorem dX8_better_74 : decode cX8_better 74 = .ok (.getfield 10, 3) := by decide +kernel
theorem dX8_better_77 : decode cX8_better 77 = .ok (.invokevirtual 63, 3) := by decide +kernel
theorem dX8_better_80 : decode cX8_better 80 = .ok (.aload_n 0, 1) := by decide +kernel
theorem dX8_better_81 : decode cX8_better 81 = .ok (.getfield 16, 3) := by decide +kernel
theorem dX8_better_84 : decode cX8_better 84 = .ok (.getfield 91, 3) := by decide +kernel
theorem dX8_better_87 : decode cX8_better 87 = .ok (.iload_n 1, 1) := by decide +kernel
theorem dX8_better_88 : decode cX8_better 88 = .ok (.iload 7, 2) := by decide +kernel
theorem dX8_better_90 : decode cX8_better 90 = .ok (.iastore, 1) := by decide +kernel
theorem dX8_better_91 : decode cX8_better 91 = .ok (.aload_n 0, 1) := by decide +kernel
theorem dX8_better_92 : decode cX8_better 92 = .ok (.iload_n 2, 1) := by decide +kernel
theorem dX8_better_93 : decode cX8_better 93 = .ok (.invokevirtual 201, 3) := by decide +kernel
theorem dX8_better_96 : decode cX8_better 96 = .ok (.istore 8, 2) := by decide +kernel
theorem dX8_better_98 : decode cX8_better 98 = .ok (.iload 8, 2) := by decide +kernel
theorem dX8_better_100 : decode cX8_better 100 = .ok (.iload 5, 2) := by decide +kernel
theorem dX8_better_102 : decode cX8_better 102 = .ok (.if_icmp .ge 8, 3) := by decide +kernel
theorem dX8_better_105 : decode cX8_better 105 = .ok (.iload 7, 2) := by decide +kernel
theorem dX8_better_107 : decode cX8_better 107 = .ok (.goto 5, 3) := by decide +kernel
theorem dX8_better_110 : decode cX8_better 110 = .ok (.iload 6, 2) := by decide +kernel
theorem dX8_better_112 : decode cX8_better 112 = .ok (.istore 6, 2) := by decide +kernel
theorem dX8_better_114 : decode cX8_better 114 = .ok (.iload 5, 2) := by decide +kernel
theorem dX8_better_116 : decode cX8_better 116 = .ok (.iload 8, 2) := by decide +kernel
theorem dX8_better_118 : decode cX8_better 118 = .ok (.invokestatic 198, 3) := by decide +kernel
theorem dX8_better_121 : decode cX8_better 121 = .ok (.istore 5, 2) := by decide +kernel
theorem dX8_better_123 : decode cX8_better 123 = .ok (.iinc 7 1, 3) := by decide +kernel
theorem dX8_better_126 : decode cX8_better 126 = .ok (.goto (-64), 3) := by decide +kernel
theorem dX8_better_129 : decode cX8_better 129 = .ok (.iload_n 3, 1) := by decide +kernel
theorem dX8_better_130 : decode cX8_better 130 = .ok (.ifCond .ne 8, 3) := by decide +kernel
theorem dX8_better_133 : decode cX8_better 133 = .ok (.iload 6, 2) := by decide +kernel
theorem dX8_better_135 : decode cX8_better 135 = .ok (.goto 5, 3) := by decide +kernel
theorem dX8_better_138 : decode cX8_better 138 = .ok (.iload 5, 2) := by decide +kernel
theorem dX8_better_140 : decode cX8_better 140 = .ok (.ireturn, 1) := by decide +kernel
theorem dX8_fewest_0 : decode cX8_fewest 0 = .ok (.iload_n 1, 1) := by decide +kernel
theorem dX8_fewest_1 : decode cX8_fewest 1 = .ok (.iconst 0, 1) := by decide +kernel
theorem dX8_fewest_2 : decode cX8_fewest 2 = .ok (.bipush 20, 2) := by decide +kernel
theorem dX8_fewest_4 : decode cX8_fewest 4 = .ok (.invokestatic 44, 3) := by decide +kernel
theorem dX8_fewest_7 : decode cX8_fewest 7 = .ok (.istore_n 2, 1) := by decide +kernel
theorem dX8_fewest_8 : decode cX8_fewest 8 = .ok (.iload_n 2, 1) := by decide +kernel
theorem dX8_fewest_9 : decode cX8_fewest 9 = .ok (.ifCond .eq 9, 3) := by decide +kernel
theorem dX8_fewest_12 : decode cX8_fewest 12 = .ok (.aload_n 0, 1) := by decide +kernel
theorem dX8_fewest_13 : decode cX8_fewest 13 = .ok (.iload_n 2, 1) := by decide +kernel
theorem dX8_fewest_14 : decode cX8_fewest 14 = .ok (.invokevirtual 52, 3) := by decide +kernel
theorem dX8_fewest_17 : decode cX8_fewest 17 = .ok (.ireturn, 1) := by decide +kernel
theorem dX8_fewest_18 : decode cX8_fewest 18 = .ok (.bipush (-9), 2) := by decide +kernel
theorem dX8_fewest_20 : decode cX8_fewest 20 = .ok (.istore_n 3, 1) := by decide +kernel
theorem dX8_fewest_21 : decode cX8_fewest 21 = .ok (.bipush 7, 2) := by decide +kernel
theorem dX8_fewest_23 : decode cX8_fewest 23 = .ok (.istore 4, 2) := by decide +kernel
theorem dX8_fewest_25 : decode cX8_fewest 25 = .ok (.iconst 0, 1) := by decide +kernel
theorem dX8_fewest_26 : decode cX8_fewest 26 = .ok (.istore 5, 2) := by decide +kernel
theorem dX8_fewest_28 : decode cX8_fewest 28 = .ok (.iload 5, 2) := by decide +kernel
theorem dX8_fewest_30 : decode cX8_fewest 30 = .ok (.iconst 1, 1) := by decide +kernel
theorem dX8_fewest_31 : decode cX8_fewest 31 = .ok (.aload_n 0, 1) := by decide +kernel
theorem dX8_fewest_32 : decode cX8_fewest 32 = .ok (.getfield 10, 3) := by decide +kernel
theorem dX8_fewest_35 : decode cX8_fewest 35 = .ok (.getfield 189, 3) := by decide +kernel
theorem dX8_fewest_38 : decode cX8_fewest 38 = .ok (.ishl, 1) := by decide +kernel
theorem dX8_fewest_39 : decode cX8_fewest 39 = .ok (.if_icmp .ge 39, 3) := by decide +kernel
theorem dX8_fewest_42 : decode cX8_fewest 42 = .ok (.iload 5, 2) := by decide +kernel
theorem dX8_fewest_44 : decode cX8_fewest 44 = .ok (.invokestatic 208, 3) := by decide +kernel
theorem dX8_fewest_47 : decode cX8_fewest 47 = .ok (.iload 4, 2) := by decide +kernel
theorem dX8_fewest_49 : decode cX8_fewest 49 = .ok (.if_icmp .ge 23, 3) := by decide +kernel
theorem dX8_fewest_52 : decode cX8_fewest 52 = .ok (.aload_n 0, 1) := by decide +kernel
theorem dX8_fewest_53 : decode cX8_fewest 53 = .ok (.iload 5, 2) := by decide +kernel
theorem dX8_fewest_55 : decode cX8_fewest 55 = .ok (.iload_n 1, 1) := by decide +kernel
theorem dX8_fewest_56 : decode cX8_fewest 56 = .ok (.invokevirtual 211, 3) := by decide +kernel
theorem dX8_fewest_59 : decode cX8_fewest 59 = .ok (.ifCond .eq 13, 3) := by decide +kernel
theorem dX8_fewest_62 : decode cX8_fewest 62 = .ok (.iload 5, 2) := by decide +kernel
theorem dX8_fewest_64 : decode cX8_fewest 64 = .ok (.istore_n 3, 1) := by decide +kernel
theorem dX8_fewest_65 : decode cX8_fewest 65 = .ok (.iload 5, 2) := by decide +kernel
theorem dX8_fewest_67 : decode cX8_fewest 67 = .ok (.invokestatic 208, 3) := by decide +kernel
theorem dX8_fewest_70 : decode cX8_fewest 70 = .ok (.istore 4, 2) := by decide +kernel
theorem dX8_fewest_72 : decode cX8_fewest 72 = .ok (.iinc 5 1, 3) := by decide +kernel
theorem dX8_fewest_75 : decode cX8_fewest 75 = .ok (.goto (-47), 3) := by decide +kernel
theorem dX8_fewest_78 : decode cX8_fewest 78 = .ok (.iload_n 3, 1) := by decide +kernel
theorem dX8_fewest_79 : decode cX8_fewest 79 = .ok (.ireturn, 1) := by decide +kernel
theorem dX8_send_0 : decode cX8_send 0 = .ok (.iload_n 1, 1) := by decide +kernel
theorem dX8_send_1 : decode cX8_send 1 = .ok (.iconst 0, 1) := by decide +kernel
theorem dX8_send_2 : decode cX8_send 2 = .ok (.bipush 30, 2) := by decide +kernel
theorem dX8_send_4 : decode cX8_send 4 = .ok (.invokestatic 44, 3) := by decide +kernel
theorem dX8_send_7 : decode cX8_send 7 = .ok (.istore_n 2, 1) := by decide +kernel
theorem dX8_send_8 : decode cX8_send 8 = .ok (.iload_n 2, 1) := by decide +kernel
theorem dX8_send_9 : decode cX8_send 9 = .ok (.ifCond .eq 9, 3) := by decide +kernel
theorem dX8_send_12 : decode cX8_send 12 = .ok (.aload_n 0, 1) := by decide +kernel
theorem dX8_send_13 : decode cX8_send 13 = .ok (.iload_n 2, 1) := by decide +kernel
theorem dX8_send_14 : decode cX8_send 14 = .ok (.invokevirtual 52, 3) := by decide +kernel
theorem dX8_send_17 : decode cX8_send 17 = .ok (.ireturn, 1) := by decide +kernel
theorem dX8_send_18 : decode cX8_send 18 = .ok (.aload_n 0, 1) := by decide +kernel
theorem dX8_send_19 : decode cX8_send 19 = .ok (.iload_n 1, 1) := by decide +kernel
theorem dX8_send_20 : decode cX8_send 20 = .ok (.iconst 0, 1) := by decide +kernel
theorem dX8_send_21 : decode cX8_send 21 = .ok (.invokevirtual 214, 3) := by decide +kernel
theorem dX8_send_24 : decode cX8_send 24 = .ok (.istore_n 3, 1) := by decide +kernel
theorem dX8_send_25 : decode cX8_send 25 = .ok (.bipush (-9), 2) := by decide +kernel
theorem dX8_send_27 : decode cX8_send 27 = .ok (.istore 4, 2) := by decide +kernel
theorem dX8_send_29 : decode cX8_send 29 = .ok (.iconst 0, 1) := by decide +kernel
theorem dX8_send_30 : decode cX8_send 30 = .ok (.istore 5, 2) := by decide +kernel
theorem dX8_send_32 : decode cX8_send 32 = .ok (.iload 5, 2) := by decide +kernel
theorem dX8_send_34 : decode cX8_send 34 = .ok (.aload_n 0, 1) := by decide +kernel
theorem dX8_send_35 : decode cX8_send 35 = .ok (.getfield 10, 3) := by decide +kernel
theorem dX8_send_38 : decode cX8_send 38 = .ok (.getfield 189, 3) := by decide +kernel
theorem dX8_send_41 : decode cX8_send 41 = .ok (.if_icmp .ge 42, 3) := by decide +kernel
theorem dX8_send_44 : decode cX8_send 44 = .ok (.aload_n 0, 1) := by decide +kernel
theorem dX8_send_45 : decode cX8_send 45 = .ok (.iload_n 1, 1) := by decide +kernel
theorem dX8_send_46 : decode cX8_send 46 = .ok (.iconst 1, 1) := by decide +kernel
theorem dX8_send_47 : decode cX8_send 47 = .ok (.iload 5, 2) := by decide +kernel
theorem dX8_send_49 : decode cX8_send 49 = .ok (.ishl, 1) := by decide +kernel
theorem dX8_send_50 : decode cX8_send 50 = .ok (.invokevirtual 214, 3) := by decide +kernel
theorem dX8_send_53 : decode cX8_send 53 = .ok (.istore 6, 2) := by decide +kernel
theorem dX8_send_55 : decode cX8_send 55 = .ok (.iload 6, 2) := by decide +kernel
theorem dX8_send_57 : decode cX8_send 57 = .ok (.iload_n 3, 1) := by decide +kernel
theorem dX8_send_58 : decode cX8_send 58 = .ok (.if_icmp .ge 8, 3) := by decide +kernel
theorem dX8_send_61 : decode cX8_send 61 = .ok (.iload 5, 2) := by decide +kernel
theorem dX8_send_63 : decode cX8_send 63 = .ok (.goto 5, 3) := by decide +kernel
theorem dX8_send_66 : decode cX8_send 66 = .ok (.iload 4, 2) := by decide +kernel
theorem dX8_send_68 : decode cX8_send 68 = .ok (.istore 4, 2) := by decide +kernel
theorem dX8_send_70 : decode cX8_send 70 = .ok (.iload_n 3, 1) := by decide +kernel
theorem dX8_send_71 : decode cX8_send 71 = .ok (.iload 6, 2) := by decide +kernel
theorem dX8_send_73 : decode cX8_send 73 = .ok (.invokestatic 198, 3) := by decide +kernel
theorem dX8_send_76 : decode cX8_send 76 = .ok (.istore_n 3, 1) := by decide +kernel
theorem dX8_send_77 : decode cX8_send 77 = .ok (.iinc 5 1, 3) := by decide +kernel
theorem dX8_send_80 : decode cX8_send 80 = .ok (.goto (-48), 3) := by decide +kernel
theorem dX8_send_83 : decode cX8_send 83 = .ok (.iload 4, 2) := by decide +kernel
theorem dX8_send_85 : decode cX8_send 85 = .ok (.ireturn, 1) := by decide +kernel
theorem dX8_holiday_0 : decode cX8_holiday 0 = .ok (.iload_n 1, 1) := by decide +kernel
theorem dX8_holiday_1 : decode cX8_holiday 1 = .ok (.iconst 0, 1) := by decide +kernel
theorem dX8_holiday_2 : decode cX8_holiday 2 = .ok (.bipush 30, 2) := by decide +kernel
theorem dX8_holiday_4 : decode cX8_holiday 4 = .ok (.invokestatic 44, 3) := by decide +kernel
theorem dX8_holiday_7 : decode cX8_holiday 7 = .ok (.istore_n 3, 1) := by decide +kernel
theorem dX8_holiday_8 : decode cX8_holiday 8 = .ok (.iload_n 3, 1) := by decide +kernel
theorem dX8_holiday_9 : decode cX8_holiday 9 = .ok (.ifCond .eq 9, 3) := by decide +kernel
theorem dX8_holiday_12 : decode cX8_holiday 12 = .ok (.aload_n 0, 1) := by decide +kernel
theorem dX8_holiday_13 : decode cX8_holiday 13 = .ok (.iload_n 3, 1) := by decide +kernel
theorem dX8_holiday_14 : decode cX8_holiday 14 = .ok (.invokevirtual 52, 3) := by decide +kernel
theorem dX8_holiday_17 : decode cX8_holiday 17 = .ok (.ireturn, 1) := by decide +kernel
theorem dX8_holiday_18 : decode cX8_holiday 18 = .ok (.iload_n 2, 1) := by decide +kernel
theorem dX8_holiday_19 : decode cX8_holiday 19 = .ok (.invokestatic 115, 3) := by decide +kernel
theorem dX8_holiday_22 : decode cX8_holiday 22 = .ok (.ifCond .ne 10, 3) := by decide +kernel
theorem dX8_holiday_25 : decode cX8_holiday 25 = .ok (.aload_n 0, 1) := by decide +kernel
theorem dX8_holiday_26 : decode cX8_holiday 26 = .ok (.bipush (-2), 2) := by decide +kernel
theorem dX8_holiday_28 : decode cX8_holiday 28 = .ok (.invokevirtual 52, 3) := by decide +kernel
theorem dX8_holiday_31 : decode cX8_holiday 31 = .ok (.ireturn, 1) := by decide +kernel
theorem dX8_holiday_32 : decode cX8_holiday 32 = .ok (.ldc 207, 2) := by decide +kernel
theorem dX8_holiday_34 : decode cX8_holiday 34 = .ok (.istore 4, 2) := by decide +kernel
theorem dX8_holiday_36 : decode cX8_holiday 36 = .ok (.iconst 0, 1) := by decide +kernel
theorem dX8_holiday_37 : decode cX8_holiday 37 = .ok (.istore 5, 2) := by decide +kernel
theorem dX8_holiday_39 : decode cX8_holiday 39 = .ok (.iconst 0, 1) := by decide +kernel
theorem dX8_holiday_40 : decode cX8_holiday 40 = .ok (.istore 6, 2) := by decide +kernel
theorem dX8_holiday_42 : decode cX8_holiday 42 = .ok (.iload 6, 2) := by decide +kernel
theorem dX8_holiday_44 : decode cX8_holiday 44 = .ok (.bipush 7, 2) := by decide +kernel
theorem dX8_holiday_46 : decode cX8_holiday 46 = .ok (.if_icmp .ge 65, 3) := by decide +kernel
theorem dX8_holiday_49 : decode cX8_holiday 49 = .ok (.aload_n 0, 1) := by decide +kernel
theorem dX8_holiday_50 : decode cX8_holiday 50 = .ok (.getfield 16, 3) := by decide +kernel
theorem dX8_holiday_53 : decode cX8_holiday 53 = .ok (.aload_n 0, 1) := by decide +kernel
theorem dX8_holiday_54 : decode cX8_holiday 54 = .ok (.getfield 10, 3) := by decide +kernel
theorem dX8_holiday_57 : decode cX8_holiday 57 = .ok (.invokevirtual 63, 3) := by decide +kernel
theorem dX8_holiday_60 : decode cX8_holiday 60 = .ok (.aload_n 0, 1) := by decide +kernel
theorem dX8_holiday_61 : decode cX8_holiday 61 = .ok (.getfield 16, 3) := by decide +kernel
theorem dX8_holiday_64 : decode cX8_holiday 64 = .ok (.bipush 63, 2) := by decide +kernel
theorem dX8_holiday_66 : decode cX8_holiday 66 = .ok (.iconst 1, 1) := by decide +kernel
theorem dX8_holiday_67 : decode cX8_holiday 67 = .ok (.iload 6, 2) := by decide +kernel
theorem dX8_holiday_69 : decode cX8_holiday 69 = .ok (.ishl, 1) := by decide +kernel
theorem dX8_holiday_70 : decode cX8_holiday 70 = .ok (.invokevirtual 217, 3) := by decide +kernel
theorem dX8_holiday_73 : decode cX8_holiday 73 = .ok (.aload_n 0, 1) := by decide +kernel
theorem dX8_holiday_74 : decode cX8_holiday 74 = .ok (.iload_n 1, 1) := by decide +kernel
theorem dX8_holiday_75 : decode cX8_holiday 75 = .ok (.invokevirtual 201, 3) := by decide +kernel
theorem dX8_holiday_78 : decode cX8_holiday 78 = .ok (.istore 7, 2) := by decide +kernel
theorem dX8_holiday_80 : decode cX8_holiday 80 = .ok (.iload 7, 2) := by decide +kernel
theorem dX8_holiday_82 : decode cX8_holiday 82 = .ok (.iload 4, 2) := by decide +kernel
theorem dX8_holiday_84 : decode cX8_holiday 84 = .ok (.if_icmp .ge 8, 3) := by decide +kernel
theorem dX8_holiday_87 : decode cX8_holiday 87 = .ok (.iload 6, 2) := by decide +kernel
theorem dX8_holiday_89 : decode cX8_holiday 89 = .ok (.goto 5, 3) := by decide +kernel
theorem dX8_holiday_92 : decode cX8_holiday 92 = .ok (.iload 5, 2) := by decide +kernel
theorem dX8_holiday_94 : decode cX8_holiday 94 = .ok (.istore 5, 2) := by decide +kernel
theorem dX8_holiday_96 : decode cX8_holiday 96 = .ok (.iload 4, 2) := by decide +kernel
theorem dX8_holiday_98 : decode cX8_holiday 98 = .ok (.iload 7, 2) := by decide +kernel
theorem dX8_holiday_100 : decode cX8_holiday 100 = .ok (.invokestatic 198, 3) := by decide +kernel
theorem dX8_holiday_103 : decode cX8_holiday 103 = .ok (.istore 4, 2) := by decide +kernel
theorem dX8_holiday_105 : decode cX8_holiday 105 = .ok (.iinc 6 1, 3) := by decide +kernel
theorem dX8_holiday_108 : decode cX8_holiday 108 = .ok (.goto (-66), 3) := by decide +kernel
theorem dX8_holiday_111 : decode cX8_holiday 111 = .ok (.iload_n 2, 1) := by decide +kernel
theorem dX8_holiday_112 : decode cX8_holiday 112 = .ok (.ifCond .ne 8, 3) := by decide +kernel
theorem dX8_holiday_115 : decode cX8_holiday 115 = .ok (.iload 5, 2) := by decide +kernel
theorem dX8_holiday_117 : decode cX8_holiday 117 = .ok (.goto 5, 3) := by decide +kernel
theorem dX8_holiday_120 : decode cX8_holiday 120 = .ok (.iload 4, 2) := by decide +kernel
theorem dX8_holiday_122 : decode cX8_holiday 122 = .ok (.ireturn, 1) := by decide +kernel
theorem dX8_two_0 : decode cX8_two 0 = .ok (.aload_n 0, 1) := by decide +kernel
theorem dX8_two_1 : decode cX8_two 1 = .ok (.iload_n 1, 1) := by decide +kernel
theorem dX8_two_2 : decode cX8_two 2 = .ok (.iload_n 2, 1) := by decide +kernel
theorem dX8_two_3 : decode cX8_two 3 = .ok (.invokevirtual 136, 3) := by decide +kernel
theorem dX8_two_6 : decode cX8_two 6 = .ok (.ifCond .ne 9, 3) := by decide +kernel
theorem dX8_two_9 : decode cX8_two 9 = .ok (.aload_n 0, 1) := by decide +kernel
theorem dX8_two_10 : decode cX8_two 10 = .ok (.iconst (-1), 1) := by decide +kernel
theorem dX8_two_11 : decode cX8_two 11 = .ok (.invokevirtual 52, 3) := by decide +kernel
theorem dX8_two_14 : decode cX8_two 14 = .ok (.ireturn, 1) := by decide +kernel
theorem dX8_two_15 : decode cX8_two 15 = .ok (.iload_n 3, 1) := by decide +kernel
theorem dX8_two_16 : decode cX8_two 16 = .ok (.iconst 0, 1) := by decide +kernel
theorem dX8_two_17 : decode cX8_two 17 = .ok (.bipush 30, 2) := by decide +kernel
theorem dX8_two_19 : decode cX8_two 19 = .ok (.invokestatic 44, 3) := by decide +kernel
theorem dX8_two_22 : decode cX8_two 22 = .ok (.istore 4, 2) := by decide +kernel
theorem dX8_two_24 : decode cX8_two 24 = .ok (.iload 4, 2) := by decide +kernel
theorem dX8_two_26 : decode cX8_two 26 = .ok (.ifCond .eq 10, 3) := by decide +kernel
theorem dX8_two_29 : decode cX8_two 29 = .ok (.aload_n 0, 1) := by decide +kernel
theorem dX8_two_30 : decode cX8_two 30 = .ok (.iload 4, 2) := by decide +kernel
theorem dX8_two_32 : decode cX8_two 32 = .ok (.invokevirtual 52, 3) := by decide +kernel
theorem dX8_two_35 : decode cX8_two 35 = .ok (.ireturn, 1) := by decide +kernel
theorem dX8_two_36 : decode cX8_two 36 = .ok (.iconst 0, 1) := by decide +kernel
theorem dX8_two_37 : decode cX8_two 37 = .ok (.istore 5, 2) := by decide +kernel
theorem dX8_two_39 : decode cX8_two 39 = .ok (.iload 5, 2) := by decide +kernel
theorem dX8_two_41 : decode cX8_two 41 = .ok (.iconst 2, 1) := by decide +kernel
theorem dX8_two_42 : decode cX8_two 42 = .ok (.if_icmp .ge 66, 3) := by decide +kernel
theorem dX8_two_45 : decode cX8_two 45 = .ok (.iconst 0, 1) := by decide +kernel
theorem dX8_two_46 : decode cX8_two 46 = .ok (.istore 6, 2) := by decide +kernel
theorem dX8_two_48 : decode cX8_two 48 = .ok (.iload 6, 2) := by decide +kernel
theorem dX8_two_50 : decode cX8_two 50 = .ok (.iconst 2, 1) := by decide +kernel
theorem dX8_two_51 : decode cX8_two 51 = .ok (.if_icmp .ge 51, 3) := by decide +kernel
theorem dX8_two_54 : decode cX8_two 54 = .ok (.iload 5, 2) := by decide +kernel
theorem dX8_two_56 : decode cX8_two 56 = .ok (.iload_n 1, 1) := by decide +kernel
theorem dX8_two_57 : decode cX8_two 57 = .ok (.ishl, 1) := by decide +kernel
theorem dX8_two_58 : decode cX8_two 58 = .ok (.iload 6, 2) := by decide +kernel
theorem dX8_two_60 : decode cX8_two 60 = .ok (.iload_n 2, 1) := by decide +kernel
theorem dX8_two_61 : decode cX8_two 61 = .ok (.ishl, 1) := by decide +kernel
theorem dX8_two_62 : decode cX8_two 62 = .ok (.ior, 1) := by decide +kernel
theorem dX8_two_63 : decode cX8_two 63 = .ok (.istore 7, 2) := by decide +kernel
theorem dX8_two_65 : decode cX8_two 65 = .ok (.aload_n 0, 1) := by decide +kernel
theorem dX8_two_66 : decode cX8_two 66 = .ok (.iload_n 1, 1) := by decide +kernel
theorem dX8_two_67 : decode cX8_two 67 = .ok (.iload 7, 2) := by decide +kernel
theorem dX8_two_69 : decode cX8_two 69 = .ok (.iload_n 3, 1) := by decide +kernel
theorem dX8_two_70 : decode cX8_two 70 = .ok (.invokevirtual 220, 3) := by decide +kernel
theorem dX8_two_73 : decode cX8_two 73 = .ok (.ifCond .eq 23, 3) := by decide +kernel
theorem dX8_two_76 : decode cX8_two 76 = .ok (.aload_n 0, 1) := by decide +kernel
theorem dX8_two_77 : decode cX8_two 77 = .ok (.iload_n 2, 1) := by decide +kernel
theorem dX8_two_78 : decode cX8_two 78 = .ok (.iload 7, 2) := by decide +kernel
theorem dX8_two_80 : decode cX8_two 80 = .ok (.iload_n 3, 1) := by decide +kernel
theorem dX8_two_81 : decode cX8_two 81 = .ok (.invokevirtual 220, 3) := by decide +kernel
theorem dX8_two_84 : decode cX8_two 84 = .ok (.ifCond .eq 12, 3) := by decide +kernel
theorem dX8_two_87 : decode cX8_two 87 = .ok (.bipush 10, 2) := by decide +kernel
theorem dX8_two_89 : decode cX8_two 89 = .ok (.iload 5, 2) := by decide +kernel
theorem dX8_two_91 : decode cX8_two 91 = .ok (.imul, 1) := by decide +kernel
theorem dX8_two_92 : decode cX8_two 92 = .ok (.iload 6, 2) := by decide +kernel
theorem dX8_two_94 : decode cX8_two 94 = .ok (.iadd, 1) := by decide +kernel
theorem dX8_two_95 : decode cX8_two 95 = .ok (.ireturn, 1) := by decide +kernel
theorem dX8_two_96 : decode cX8_two 96 = .ok (.iinc 6 1, 3) := by decide +kernel
theorem dX8_two_99 : decode cX8_two 99 = .ok (.goto (-51), 3) := by decide +kernel
theorem dX8_two_102 : decode cX8_two 102 = .ok (.iinc 5 1, 3) := by decide +kernel
theorem dX8_two_105 : decode cX8_two 105 = .ok (.goto (-66), 3) := by decide +kernel
theorem dX8_two_108 : decode cX8_two 108 = .ok (.bipush (-9), 2) := by decide +kernel
theorem dX8_two_110 : decode cX8_two 110 = .ok (.ireturn, 1) := by decide +kernel
theorem dX8_fever_0 : decode cX8_fever 0 = .ok (.aload_n 0, 1) := by decide +kernel
theorem dX8_fever_1 : decode cX8_fever 1 = .ok (.iload_n 1, 1) := by decide +kernel
theorem dX8_fever_2 : decode cX8_fever 2 = .ok (.iload_n 2, 1) := by decide +kernel
theorem dX8_fever_3 : decode cX8_fever 3 = .ok (.iload_n 3, 1) := by decide +kernel
theorem dX8_fever_4 : decode cX8_fever 4 = .ok (.iload 4, 2) := by decide +kernel
theorem dX8_fever_6 : decode cX8_fever 6 = .ok (.iload 5, 2) := by decide +kernel
theorem dX8_fever_8 : decode cX8_fever 8 = .ok (.invokevirtual 223, 3) := by decide +kernel
theorem dX8_fever_11 : decode cX8_fever 11 = .ok (.istore 6, 2) := by decide +kernel
theorem dX8_fever_13 : decode cX8_fever 13 = .ok (.iload 6, 2) := by decide +kernel
theorem dX8_fever_15 : decode cX8_fever 15 = .ok (.ifCond .eq 10, 3) := by decide +kernel
theorem dX8_fever_18 : decode cX8_fever 18 = .ok (.aload_n 0, 1) := by decide +kernel
theorem dX8_fever_19 : decode cX8_fever 19 = .ok (.iload 6, 2) := by decide +kernel
theorem dX8_fever_21 : decode cX8_fever 21 = .ok (.invokevirtual 227, 3) := by decide +kernel
theorem dX8_fever_24 : decode cX8_fever 24 = .ok (.lreturn, 1) := by decide +kernel
theorem dX8_fever_25 : decode cX8_fever 25 = .ok (.lconst 1, 1) := by decide +kernel
theorem dX8_fever_26 : decode cX8_fever 26 = .ok (.lstore 7, 2) := by decide +kernel
theorem dX8_fever_28 : decode cX8_fever 28 = .ok (.iconst 0, 1) := by decide +kernel
theorem dX8_fever_29 : decode cX8_fever 29 = .ok (.istore 9, 2) := by decide +kernel
theorem dX8_fever_31 : decode cX8_fever 31 = .ok (.iload 9, 2) := by decide +kernel
theorem dX8_fever_33 : decode cX8_fever 33 = .ok (.iload_n 2, 1) := by decide +kernel
theorem dX8_fever_34 : decode cX8_fever 34 = .ok (.if_icmp .ge 16, 3) := by decide +kernel
theorem dX8_fever_37 : decode cX8_fever 37 = .ok (.lload 7, 2) := by decide +kernel
theorem dX8_fever_39 : decode cX8_fever 39 = .ok (.iload_n 3, 1) := by decide +kernel
theorem dX8_fever_40 : decode cX8_fever 40 = .ok (.i2l, 1) := by decide +kernel
theorem dX8_fever_41 : decode cX8_fever 41 = .ok (.lmul, 1) := by decide +kernel
theorem dX8_fever_42 : decode cX8_fever 42 = .ok (.lstore 7, 2) := by decide +kernel
theorem dX8_fever_44 : decode cX8_fever 44 = .ok (.iinc 9 1, 3) := by decide +kernel
theorem dX8_fever_47 : decode cX8_fever 47 = .ok (.goto (-16), 3) := by decide +kernel
theorem dX8_fever_50 : decode cX8_fever 50 = .ok (.lconst 0, 1) := by decide +kernel
theorem dX8_fever_51 : decode cX8_fever 51 = .ok (.lstore 9, 2) := by decide +kernel
theorem dX8_fever_53 : decode cX8_fever 53 = .ok (.iconst 0, 1) := by decide +kernel
theorem dX8_fever_54 : decode cX8_fever 54 = .ok (.istore 11, 2) := by decide +kernel
theorem dX8_fever_56 : decode cX8_fever 56 = .ok (.iload 11, 2) := by decide +kernel
theorem dX8_fever_58 : decode cX8_fever 58 = .ok (.iconst 1, 1) := by decide +kernel
theorem dX8_fever_59 : decode cX8_fever 59 = .ok (.iload_n 2, 1) := by decide +kernel
theorem dX8_fever_60 : decode cX8_fever 60 = .ok (.ishl, 1) := by decide +kernel
theorem dX8_fever_61 : decode cX8_fever 61 = .ok (.if_icmp .ge 34, 3) := by decide +kernel
theorem dX8_fever_64 : decode cX8_fever 64 = .ok (.aload_n 0, 1) := by decide +kernel
theorem dX8_fever_65 : decode cX8_fever 65 = .ok (.iload_n 1, 1) := by decide +kernel
theorem dX8_fever_66 : decode cX8_fever 66 = .ok (.iload_n 2, 1) := by decide +kernel
theorem dX8_fever_67 : decode cX8_fever 67 = .ok (.iload 11, 2) := by decide +kernel
theorem dX8_fever_69 : decode cX8_fever 69 = .ok (.invokevirtual 231, 3) := by decide +kernel
theorem dX8_fever_72 : decode cX8_fever 72 = .ok (.iload 4, 2) := by decide +kernel
theorem dX8_fever_74 : decode cX8_fever 74 = .ok (.if_icmp .lt 15, 3) := by decide +kernel
theorem dX8_fever_77 : decode cX8_fever 77 = .ok (.lload 9, 2) := by decide +kernel
theorem dX8_fever_79 : decode cX8_fever 79 = .ok (.iload_n 2, 1) := by decide +kernel
theorem dX8_fever_80 : decode cX8_fever 80 = .ok (.iload 11, 2) := by decide +kernel
theorem dX8_fever_82 : decode cX8_fever 82 = .ok (.iload_n 3, 1) := by decide +kernel
theorem dX8_fever_83 : decode cX8_fever 83 = .ok (.invokestatic 234, 3) := by decide +kernel
theorem dX8_fever_86 : decode cX8_fever 86 = .ok (.ladd, 1) := by decide +kernel
theorem dX8_fever_87 : decode cX8_fever 87 = .ok (.lstore 9, 2) := by decide +kernel
theorem dX8_fever_89 : decode cX8_fever 89 = .ok (.iinc 11 1, 3) := by decide +kernel
theorem dX8_fever_92 : decode cX8_fever 92 = .ok (.goto (-36), 3) := by decide +kernel
theorem dX8_fever_95 : decode cX8_fever 95 = .ok (.lload 9, 2) := by decide +kernel
theorem dX8_fever_97 : decode cX8_fever 97 = .ok (.lload 7, 2) := by decide +kernel
theorem dX8_fever_99 : decode cX8_fever 99 = .ok (.iload 5, 2) := by decide +kernel
theorem dX8_fever_101 : decode cX8_fever 101 = .ok (.invokestatic 238, 3) := by decide +kernel
theorem dX8_fever_104 : decode cX8_fever 104 = .ok (.lreturn, 1) := by decide +kernel
theorem dX8_mean_0 : decode cX8_mean 0 = .ok (.iload_n 1, 1) := by decide +kernel
theorem dX8_mean_1 : decode cX8_mean 1 = .ok (.invokestatic 115, 3) := by decide +kernel
theorem dX8_mean_4 : decode cX8_mean 4 = .ok (.ifCond .ne 10, 3) := by decide +kernel
theorem dX8_mean_7 : decode cX8_mean 7 = .ok (.aload_n 0, 1) := by decide +kernel
theorem dX8_mean_8 : decode cX8_mean 8 = .ok (.bipush (-2), 2) := by decide +kernel
theorem dX8_mean_10 : decode cX8_mean 10 = .ok (.invokevirtual 227, 3) := by decide +kernel
theorem dX8_mean_13 : decode cX8_mean 13 = .ok (.lreturn, 1) := by decide +kernel
theorem dX8_mean_14 : decode cX8_mean 14 = .ok (.aload_n 0, 1) := by decide +kernel
theorem dX8_mean_15 : decode cX8_mean 15 = .ok (.getfield 10, 3) := by decide +kernel
theorem dX8_mean_18 : decode cX8_mean 18 = .ok (.invokevirtual 242, 3) := by decide +kernel
theorem dX8_mean_21 : decode cX8_mean 21 = .ok (.i2l, 1) := by decide +kernel
theorem dX8_mean_22 : decode cX8_mean 22 = .ok (.aload_n 0, 1) := by decide +kernel
theorem dX8_mean_23 : decode cX8_mean 23 = .ok (.getfield 10, 3) := by decide +kernel
theorem dX8_mean_26 : decode cX8_mean 26 = .ok (.getfield 189, 3) := by decide +kernel
theorem dX8_mean_29 : decode cX8_mean 29 = .ok (.iconst 1, 1) := by decide +kernel
theorem dX8_mean_30 : decode cX8_mean 30 = .ok (.invokestatic 193, 3) := by decide +kernel
theorem dX8_mean_33 : decode cX8_mean 33 = .ok (.i2l, 1) := by decide +kernel
theorem dX8_mean_34 : decode cX8_mean 34 = .ok (.iload_n 1, 1) := by decide +kernel
theorem dX8_mean_35 : decode cX8_mean 35 = .ok (.invokestatic 238, 3) := by decide +kernel
theorem dX8_mean_38 : decode cX8_mean 38 = .ok (.lreturn, 1) := by decide +kernel
theorem dX8_whatIs_0 : decode cX8_whatIs 0 = .ok (.aload_n 0, 1) := by decide +kernel
theorem dX8_whatIs_1 : decode cX8_whatIs 1 = .ok (.getfield 10, 3) := by decide +kernel
theorem dX8_whatIs_4 : decode cX8_whatIs 4 = .ok (.iload_n 1, 1) := by decide +kernel
theorem dX8_whatIs_5 : decode cX8_whatIs 5 = .ok (.invokevirtual 87, 3) := by decide +kernel
theorem dX8_whatIs_8 : decode cX8_whatIs 8 = .ok (.ifCond .ne 9, 3) := by decide +kernel
theorem dX8_whatIs_11 : decode cX8_whatIs 11 = .ok (.aload_n 0, 1) := by decide +kernel
theorem dX8_whatIs_12 : decode cX8_whatIs 12 = .ok (.iconst (-1), 1) := by decide +kernel
theorem dX8_whatIs_13 : decode cX8_whatIs 13 = .ok (.invokevirtual 52, 3) := by decide +kernel
theorem dX8_whatIs_16 : decode cX8_whatIs 16 = .ok (.ireturn, 1) := by decide +kernel
theorem dX8_whatIs_17 : decode cX8_whatIs 17 = .ok (.iload_n 2, 1) := by decide +kernel
theorem dX8_whatIs_18 : decode cX8_whatIs 18 = .ok (.invokestatic 115, 3) := by decide +kernel
theorem dX8_whatIs_21 : decode cX8_whatIs 21 = .ok (.ifCond .ne 10, 3) := by decide +kernel
theorem dX8_whatIs_24 : decode cX8_whatIs 24 = .ok (.aload_n 0, 1) := by decide +kernel
theorem dX8_whatIs_25 : decode cX8_whatIs 25 = .ok (.bipush (-2), 2) := by decide +kernel
theorem dX8_whatIs_27 : decode cX8_whatIs 27 = .ok (.invokevirtual 52, 3) := by decide +kernel
theorem dX8_whatIs_30 : decode cX8_whatIs 30 = .ok (.ireturn, 1) := by decide +kernel
theorem dX8_whatIs_31 : decode cX8_whatIs 31 = .ok (.iconst 0, 1) := by decide +kernel
theorem dX8_whatIs_32 : decode cX8_whatIs 32 = .ok (.istore_n 3, 1) := by decide +kernel
theorem dX8_whatIs_33 : decode cX8_whatIs 33 = .ok (.iload_n 2, 1) := by decide +kernel
theorem dX8_whatIs_34 : decode cX8_whatIs 34 = .ok (.ifCond .ne 8, 3) := by decide +kernel
theorem dX8_whatIs_37 : decode cX8_whatIs 37 = .ok (.bipush 6, 2) := by decide +kernel
theorem dX8_whatIs_39 : decode cX8_whatIs 39 = .ok (.goto 5, 3) := by decide +kernel
theorem dX8_whatIs_42 : decode cX8_whatIs 42 = .ok (.bipush 10, 2) := by decide +kernel
theorem dX8_whatIs_44 : decode cX8_whatIs 44 = .ok (.istore 4, 2) := by decide +kernel
theorem dX8_whatIs_46 : decode cX8_whatIs 46 = .ok (.iconst 0, 1) := by decide +kernel
theorem dX8_whatIs_47 : decode cX8_whatIs 47 = .ok (.istore 5, 2) := by decide +kernel
theorem dX8_whatIs_49 : decode cX8_whatIs 49 = .ok (.iload 5, 2) := by decide +kernel
theorem dX8_whatIs_51 : decode cX8_whatIs 51 = .ok (.iload 4, 2) := by decide +kernel
theorem dX8_whatIs_53 : decode cX8_whatIs 53 = .ok (.if_icmp .ge 64, 3) := by decide +kernel
theorem dX8_whatIs_56 : decode cX8_whatIs 56 = .ok (.aload_n 0, 1) := by decide +kernel
theorem dX8_whatIs_57 : decode cX8_whatIs 57 = .ok (.getfield 16, 3) := by decide +kernel
theorem dX8_whatIs_60 : decode cX8_whatIs 60 = .ok (.aload_n 0, 1) := by decide +kernel
theorem dX8_whatIs_61 : decode cX8_whatIs 61 = .ok (.getfield 10, 3) := by decide +kernel
theorem dX8_whatIs_64 : decode cX8_whatIs 64 = .ok (.invokevirtual 63, 3) := by decide +kernel
theorem dX8_whatIs_67 : decode cX8_whatIs 67 = .ok (.iload_n 2, 1) := by decide +kernel
theorem dX8_whatIs_68 : decode cX8_whatIs 68 = .ok (.ifCond .ne 17, 3) := by decide +kernel
theorem dX8_whatIs_71 : decode cX8_whatIs 71 = .ok (.aload_n 0, 1) := by decide +kernel
theorem dX8_whatIs_72 : decode cX8_whatIs 72 = .ok (.getfield 16, 3) := by decide +kernel
theorem dX8_whatIs_75 : decode cX8_whatIs 75 = .ok (.getfield 91, 3) := by decide +kernel
theorem dX8_whatIs_78 : decode cX8_whatIs 78 = .ok (.iload_n 1, 1) := by decide +kernel
theorem dX8_whatIs_79 : decode cX8_whatIs 79 = .ok (.iload 5, 2) := by decide +kernel
theorem dX8_whatIs_81 : decode cX8_whatIs 81 = .ok (.iastore, 1) := by decide +kernel
theorem dX8_whatIs_82 : decode cX8_whatIs 82 = .ok (.goto 14, 3) := by decide +kernel
theorem dX8_whatIs_85 : decode cX8_whatIs 85 = .ok (.aload_n 0, 1) := by decide +kernel
theorem dX8_whatIs_86 : decode cX8_whatIs 86 = .ok (.getfield 16, 3) := by decide +kernel
theorem dX8_whatIs_89 : decode cX8_whatIs 89 = .ok (.getfield 94, 3) := by decide +kernel
theorem dX8_whatIs_92 : decode cX8_whatIs 92 = .ok (.iload_n 1, 1) := by decide +kernel
theorem dX8_whatIs_93 : decode cX8_whatIs 93 = .ok (.iload 5, 2) := by decide +kernel
theorem dX8_whatIs_95 : decode cX8_whatIs 95 = .ok (.iastore, 1) := by decide +kernel
theorem dX8_whatIs_96 : decode cX8_whatIs 96 = .ok (.aload_n 0, 1) := by decide +kernel
theorem dX8_whatIs_97 : decode cX8_whatIs 97 = .ok (.iload_n 1, 1) := by decide +kernel
theorem dX8_whatIs_98 : decode cX8_whatIs 98 = .ok (.invokevirtual 245, 3) := by decide +kernel
theorem dX8_whatIs_101 : decode cX8_whatIs 101 = .ok (.ifCond .eq 10, 3) := by decide +kernel
theorem dX8_whatIs_104 : decode cX8_whatIs 104 = .ok (.iload_n 3, 1) := by decide +kernel
theorem dX8_whatIs_105 : decode cX8_whatIs 105 = .ok (.iconst 1, 1) := by decide +kernel
theorem dX8_whatIs_106 : decode cX8_whatIs 106 = .ok (.iload 5, 2) := by decide +kernel
theorem dX8_whatIs_108 : decode cX8_whatIs 108 = .ok (.ishl, 1) := by decide +kernel
theorem dX8_whatIs_109 : decode cX8_whatIs 109 = .ok (.ior, 1) := by decide +kernel
theorem dX8_whatIs_110 : decode cX8_whatIs 110 = .ok (.istore_n 3, 1) := by decide +kernel
theorem dX8_whatIs_111 : decode cX8_whatIs 111 = .ok (.iinc 5 1, 3) := by decide +kernel
theorem dX8_whatIs_114 : decode cX8_whatIs 114 = .ok (.goto (-65), 3) := by decide +kernel
theorem dX8_whatIs_117 : decode cX8_whatIs 117 = .ok (.iload_n 3, 1) := by decide +kernel
theorem dX8_whatIs_118 : decode cX8_whatIs 118 = .ok (.ireturn, 1) := by decide +kernel
theorem dX8_row_0 : decode cX8_row 0 = .ok (.iload_n 1, 1) := by decide +kernel
theorem dX8_row_1 : decode cX8_row 1 = .ok (.iconst 0, 1) := by decide +kernel
theorem dX8_row_2 : decode cX8_row 2 = .ok (.bipush 99, 2) := by decide +kernel
theorem dX8_row_4 : decode cX8_row 4 = .ok (.invokestatic 44, 3) := by decide +kernel
theorem dX8_row_7 : decode cX8_row 7 = .ok (.istore_n 2, 1) := by decide +kernel
theorem dX8_row_8 : decode cX8_row 8 = .ok (.iload_n 2, 1) := by decide +kernel
theorem dX8_row_9 : decode cX8_row 9 = .ok (.ifCond .ne 15, 3) := by decide +kernel
theorem dX8_row_12 : decode cX8_row 12 = .ok (.aload_n 0, 1) := by decide +kernel
theorem dX8_row_13 : decode cX8_row 13 = .ok (.getfield 37, 3) := by decide +kernel
theorem dX8_row_16 : decode cX8_row 16 = .ok (.bipush 16, 2) := by decide +kernel
theorem dX8_row_18 : decode cX8_row 18 = .ok (.if_icmp .lt 6, 3) := by decide +kernel
theorem dX8_row_21 : decode cX8_row 21 = .ok (.bipush (-6), 2) := by decide +kernel
theorem dX8_row_23 : decode cX8_row 23 = .ok (.istore_n 2, 1) := by decide +kernel
theorem dX8_row_24 : decode cX8_row 24 = .ok (.iload_n 2, 1) := by decide +kernel
theorem dX8_row_25 : decode cX8_row 25 = .ok (.ifCond .eq 9, 3) := by decide +kernel
theorem dX8_row_28 : decode cX8_row 28 = .ok (.aload_n 0, 1) := by decide +kernel
theorem dX8_row_29 : decode cX8_row 29 = .ok (.iload_n 2, 1) := by decide +kernel
theorem dX8_row_30 : decode cX8_row 30 = .ok (.invokevirtual 52, 3) := by decide +kernel
theorem dX8_row_33 : decode cX8_row 33 = .ok (.ireturn, 1) := by decide +kernel
theorem dX8_row_34 : decode cX8_row 34 = .ok (.aload_n 0, 1) := by decide +kernel
theorem dX8_row_35 : decode cX8_row 35 = .ok (.getfield 33, 3) := by decide +kernel
theorem dX8_row_38 : decode cX8_row 38 = .ok (.aload_n 0, 1) := by decide +kernel
theorem dX8_row_39 : decode cX8_row 39 = .ok (.getfield 37, 3) := by decide +kernel
theorem dX8_row_42 : decode cX8_row 42 = .ok (.iload_n 1, 1) := by decide +kernel
theorem dX8_row_43 : decode cX8_row 43 = .ok (.iastore, 1) := by decide +kernel
theorem dX8_row_44 : decode cX8_row 44 = .ok (.aload_n 0, 1) := by decide +kernel
theorem dX8_row_45 : decode cX8_row 45 = .ok (.dup, 1) := by decide +kernel
theorem dX8_row_46 : decode cX8_row 46 = .ok (.getfield 37, 3) := by decide +kernel
theorem dX8_row_49 : decode cX8_row 49 = .ok (.iconst 1, 1) := by decide +kernel
theorem dX8_row_50 : decode cX8_row 50 = .ok (.iadd, 1) := by decide +kernel
theorem dX8_row_51 : decode cX8_row 51 = .ok (.putfield 37, 3) := by decide +kernel
theorem dX8_row_54 : decode cX8_row 54 = .ok (.aload_n 0, 1) := by decide +kernel
theorem dX8_row_55 : decode cX8_row 55 = .ok (.getfield 37, 3) := by decide +kernel
theorem dX8_row_58 : decode cX8_row 58 = .ok (.ireturn, 1) := by decide +kernel
theorem dX8_judge_0 : decode cX8_judge 0 = .ok (.aload_n 0, 1) := by decide +kernel
theorem dX8_judge_1 : decode cX8_judge 1 = .ok (.getfield 37, 3) := by decide +kernel
theorem dX8_judge_4 : decode cX8_judge 4 = .ok (.istore_n 1, 1) := by decide +kernel
theorem dX8_judge_5 : decode cX8_judge 5 = .ok (.aload_n 0, 1) := by decide +kernel
theorem dX8_judge_6 : decode cX8_judge 6 = .ok (.iconst 0, 1) := by decide +kernel
theorem dX8_judge_7 : decode cX8_judge 7 = .ok (.putfield 37, 3) := by decide +kernel
theorem dX8_judge_10 : decode cX8_judge 10 = .ok (.iconst 0, 1) := by decide +kernel
theorem dX8_judge_11 : decode cX8_judge 11 = .ok (.istore_n 2, 1) := by decide +kernel
theorem dX8_judge_12 : decode cX8_judge 12 = .ok (.iload_n 2, 1) := by decide +kernel
theorem dX8_judge_13 : decode cX8_judge 13 = .ok (.iload_n 1, 1) := by decide +kernel
theorem dX8_judge_14 : decode cX8_judge 14 = .ok (.if_icmp .ge 37, 3) := by decide +kernel
theorem dX8_judge_17 : decode cX8_judge 17 = .ok (.iload_n 2, 1) := by decide +kernel
theorem dX8_judge_18 : decode cX8_judge 18 = .ok (.bipush 7, 2) := by decide +kernel
theorem dX8_judge_20 : decode cX8_judge 20 = .ok (.if_icmp .ge 23, 3) := by decide +kernel
theorem dX8_judge_23 : decode cX8_judge 23 = .ok (.aload_n 0, 1) := by decide +kernel
theorem dX8_judge_24 : decode cX8_judge 24 = .ok (.getfield 10, 3) := by decide +kernel
theorem dX8_judge_27 : decode cX8_judge 27 = .ok (.iload_n 2, 1) := by decide +kernel
theorem dX8_judge_28 : decode cX8_judge 28 = .ok (.invokevirtual 160, 3) := by decide +kernel
theorem dX8_judge_31 : decode cX8_judge 31 = .ok (.invokestatic 208, 3) := by decide +kernel
theorem dX8_judge_34 : decode cX8_judge 34 = .ok (.aload_n 0, 1) := by decide +kernel
theorem dX8_judge_35 : decode cX8_judge 35 = .ok (.getfield 33, 3) := by decide +kernel
theorem dX8_judge_38 : decode cX8_judge 38 = .ok (.iload_n 2, 1) := by decide +kernel
theorem dX8_judge_39 : decode cX8_judge 39 = .ok (.iaload, 1) := by decide +kernel
theorem dX8_judge_40 : decode cX8_judge 40 = .ok (.if_icmp .eq 5, 3) := by decide +kernel
theorem dX8_judge_43 : decode cX8_judge 43 = .ok (.iload_n 2, 1) := by decide +kernel
theorem dX8_judge_44 : decode cX8_judge 44 = .ok (.ireturn, 1) := by decide +kernel
theorem dX8_judge_45 : decode cX8_judge 45 = .ok (.iinc 2 1, 3) := by decide +kernel
theorem dX8_judge_48 : decode cX8_judge 48 = .ok (.goto (-36), 3) := by decide +kernel
theorem dX8_judge_51 : decode cX8_judge 51 = .ok (.bipush (-9), 2) := by decide +kernel
theorem dX8_judge_53 : decode cX8_judge 53 = .ok (.ireturn, 1) := by decide +kernel
theorem dX8_clear_0 : decode cX8_clear 0 = .ok (.aload_n 0, 1) := by decide +kernel
theorem dX8_clear_1 : decode cX8_clear 1 = .ok (.getfield 37, 3) := by decide +kernel
theorem dX8_clear_4 : decode cX8_clear 4 = .ok (.istore_n 1, 1) := by decide +kernel
theorem dX8_clear_5 : decode cX8_clear 5 = .ok (.aload_n 0, 1) := by decide +kernel
theorem dX8_clear_6 : decode cX8_clear 6 = .ok (.iconst 0, 1) := by decide +kernel
theorem dX8_clear_7 : decode cX8_clear 7 = .ok (.putfield 37, 3) := by decide +kernel
theorem dX8_clear_10 : decode cX8_clear 10 = .ok (.iload_n 1, 1) := by decide +kernel
theorem dX8_clear_11 : decode cX8_clear 11 = .ok (.ireturn, 1) := by decide +kernel
theorem dX8_lots_0 : decode cX8_lots 0 = .ok (.iload_n 1, 1) := by decide +kernel
theorem dX8_lots_1 : decode cX8_lots 1 = .ok (.iconst 1, 1) := by decide +kernel
theorem dX8_lots_2 : decode cX8_lots 2 = .ok (.bipush 20, 2) := by decide +kernel
theorem dX8_lots_4 : decode cX8_lots 4 = .ok (.invokestatic 44, 3) := by decide +kernel
theorem dX8_lots_7 : decode cX8_lots 7 = .ok (.istore 4, 2) := by decide +kernel
theorem dX8_lots_9 : decode cX8_lots 9 = .ok (.iload 4, 2) := by decide +kernel
theorem dX8_lots_11 : decode cX8_lots 11 = .ok (.ifCond .eq 10, 3) := by decide +kernel
theorem dX8_lots_14 : decode cX8_lots 14 = .ok (.aload_n 0, 1) := by decide +kernel
theorem dX8_lots_15 : decode cX8_lots 15 = .ok (.iload 4, 2) := by decide +kernel
theorem dX8_lots_17 : decode cX8_lots 17 = .ok (.invokevirtual 52, 3) := by decide +kernel
theorem dX8_lots_20 : decode cX8_lots 20 = .ok (.ireturn, 1) := by decide +kernel
theorem dX8_lots_21 : decode cX8_lots 21 = .ok (.iload_n 3, 1) := by decide +kernel
theorem dX8_lots_22 : decode cX8_lots 22 = .ok (.invokestatic 115, 3) := by decide +kernel
theorem dX8_lots_25 : decode cX8_lots 25 = .ok (.ifCond .ne 10, 3) := by decide +kernel
theorem dX8_lots_28 : decode cX8_lots 28 = .ok (.aload_n 0, 1) := by decide +kernel
theorem dX8_lots_29 : decode cX8_lots 29 = .ok (.bipush (-2), 2) := by decide +kernel
theorem dX8_lots_31 : decode cX8_lots 31 = .ok (.invokevirtual 52, 3) := by decide +kernel
theorem dX8_lots_34 : decode cX8_lots 34 = .ok (.ireturn, 1) := by decide +kernel
theorem dX8_lots_35 : decode cX8_lots 35 = .ok (.iload_n 2, 1) := by decide +kernel
theorem dX8_lots_36 : decode cX8_lots 36 = .ok (.istore 5, 2) := by decide +kernel
theorem dX8_lots_38 : decode cX8_lots 38 = .ok (.iconst 0, 1) := by decide +kernel
theorem dX8_lots_39 : decode cX8_lots 39 = .ok (.istore 6, 2) := by decide +kernel
theorem dX8_lots_41 : decode cX8_lots 41 = .ok (.iconst 0, 1) := by decide +kernel
theorem dX8_lots_42 : decode cX8_lots 42 = .ok (.istore 7, 2) := by decide +kernel
theorem dX8_lots_44 : decode cX8_lots 44 = .ok (.iconst 0, 1) := by decide +kernel
theorem dX8_lots_45 : decode cX8_lots 45 = .ok (.istore 8, 2) := by decide +kernel
theorem dX8_lots_47 : decode cX8_lots 47 = .ok (.iload 8, 2) := by decide +kernel
theorem dX8_lots_49 : decode cX8_lots 49 = .ok (.iload_n 1, 1) := by decide +kernel
theorem dX8_lots_50 : decode cX8_lots 50 = .ok (.if_icmp .ge 120, 3) := by decide +kernel
theorem dX8_lots_53 : decode cX8_lots 53 = .ok (.aload_n 0, 1) := by decide +kernel
theorem dX8_lots_54 : decode cX8_lots 54 = .ok (.getfield 16, 3) := by decide +kernel
theorem dX8_lots_57 : decode cX8_lots 57 = .ok (.aload_n 0, 1) := by decide +kernel
theorem dX8_lots_58 : decode cX8_lots 58 = .ok (.getfield 10, 3) := by decide +kernel
theorem dX8_lots_61 : decode cX8_lots 61 = .ok (.invokevirtual 63, 3) := by decide +kernel
theorem dX8_lots_64 : decode cX8_lots 64 = .ok (.iconst 0, 1) := by decide +kernel
theorem dX8_lots_65 : decode cX8_lots 65 = .ok (.istore 9, 2) := by decide +kernel
theorem dX8_lots_67 : decode cX8_lots 67 = .ok (.iload 9, 2) := by decide +kernel
theorem dX8_lots_69 : decode cX8_lots 69 = .ok (.aload_n 0, 1) := by decide +kernel
theorem dX8_lots_70 : decode cX8_lots 70 = .ok (.getfield 16, 3) := by decide +kernel
theorem dX8_lots_73 : decode cX8_lots 73 = .ok (.getfield 189, 3) := by decide +kernel
theorem dX8_lots_76 : decode cX8_lots 76 = .ok (.if_icmp .ge 45, 3) := by decide +kernel
theorem dX8_lots_79 : decode cX8_lots 79 = .ok (.iload 5, 2) := by decide +kernel
theorem dX8_lots_81 : decode cX8_lots 81 = .ok (.invokestatic 248, 3) := by decide +kernel
theorem dX8_lots_84 : decode cX8_lots 84 = .ok (.istore 5, 2) := by decide +kernel
theorem dX8_lots_86 : decode cX8_lots 86 = .ok (.aload_n 0, 1) := by decide +kernel
theorem dX8_lots_87 : decode cX8_lots 87 = .ok (.getfield 16, 3) := by decide +kernel
theorem dX8_lots_90 : decode cX8_lots 90 = .ok (.getfield 97, 3) := by decide +kernel
theorem dX8_lots_93 : decode cX8_lots 93 = .ok (.iload 9, 2) := by decide +kernel
theorem dX8_lots_95 : decode cX8_lots 95 = .ok (.iload 5, 2) := by decide +kernel
theorem dX8_lots_97 : decode cX8_lots 97 = .ok (.sipush 128, 3) := by decide +kernel
theorem dX8_lots_100 : decode cX8_lots 100 = .ok (.invokestatic 251, 3) := by decide +kernel
theorem dX8_lots_103 : decode cX8_lots 103 = .ok (.iastore, 1) := by decide +kernel
theorem dX8_lots_104 : decode cX8_lots 104 = .ok (.aload_n 0, 1) := by decide +kernel
theorem dX8_lots_105 : decode cX8_lots 105 = .ok (.getfield 16, 3) := by decide +kernel
theorem dX8_lots_108 : decode cX8_lots 108 = .ok (.getfield 100, 3) := by decide +kernel
theorem dX8_lots_111 : decode cX8_lots 111 = .ok (.iload 9, 2) := by decide +kernel
theorem dX8_lots_113 : decode cX8_lots 113 = .ok (.iconst 0, 1) := by decide +kernel
theorem dX8_lots_114 : decode cX8_lots 114 = .ok (.iastore, 1) := by decide +kernel
theorem dX8_lots_115 : decode cX8_lots 115 = .ok (.iinc 9 1, 3) := by decide +kernel
theorem dX8_lots_118 : decode cX8_lots 118 = .ok (.goto (-51), 3) := by decide +kernel
theorem dX8_lots_121 : decode cX8_lots 121 = .ok (.aload_n 0, 1) := by decide +kernel
theorem dX8_lots_122 : decode cX8_lots 122 = .ok (.getfield 16, 3) := by decide +kernel
theorem dX8_lots_125 : decode cX8_lots 125 = .ok (.bipush 14, 2) := by decide +kernel
theorem dX8_lots_127 : decode cX8_lots 127 = .ok (.iconst 0, 1) := by decide +kernel
theorem dX8_lots_128 : decode cX8_lots 128 = .ok (.invokevirtual 151, 3) := by decide +kernel
theorem dX8_lots_131 : decode cX8_lots 131 = .ok (.pop, 1) := by decide +kernel
theorem dX8_lots_132 : decode cX8_lots 132 = .ok (.iload 6, 2) := by decide +kernel
theorem dX8_lots_134 : decode cX8_lots 134 = .ok (.aload_n 0, 1) := by decide +kernel
theorem dX8_lots_135 : decode cX8_lots 135 = .ok (.getfield 16, 3) := by decide +kernel
end
section
theorem dX8_lots_138 : decode cX8_lots 138 = .ok (.invokevirtual 242, 3) := by decide +kernel
theorem dX8_lots_141 : decode cX8_lots 141 = .ok (.iadd, 1) := by decide +kernel
theorem dX8_lots_142 : decode cX8_lots 142 = .ok (.istore 6, 2) := by decide +kernel
theorem dX8_lots_144 : decode cX8_lots 144 = .ok (.iload 7, 2) := by decide +kernel
theorem dX8_lots_146 : decode cX8_lots 146 = .ok (.aload_n 0, 1) := by decide +kernel
theorem dX8_lots_147 : decode cX8_lots 147 = .ok (.getfield 16, 3) := by decide +kernel
theorem dX8_lots_150 : decode cX8_lots 150 = .ok (.getfield 154, 3) := by decide +kernel
theorem dX8_lots_153 : decode cX8_lots 153 = .ok (.aload_n 0, 1) := by decide +kernel
theorem dX8_lots_154 : decode cX8_lots 154 = .ok (.getfield 10, 3) := by decide +kernel
theorem dX8_lots_157 : decode cX8_lots 157 = .ok (.getfield 154, 3) := by decide +kernel
theorem dX8_lots_160 : decode cX8_lots 160 = .ok (.isub, 1) := by decide +kernel
theorem dX8_lots_161 : decode cX8_lots 161 = .ok (.iadd, 1) := by decide +kernel
theorem dX8_lots_162 : decode cX8_lots 162 = .ok (.istore 7, 2) := by decide +kernel
theorem dX8_lots_164 : decode cX8_lots 164 = .ok (.iinc 8 1, 3) := by decide +kernel
theorem dX8_lots_167 : decode cX8_lots 167 = .ok (.goto (-120), 3) := by decide +kernel
theorem dX8_lots_170 : decode cX8_lots 170 = .ok (.iload_n 3, 1) := by decide +kernel
theorem dX8_lots_171 : decode cX8_lots 171 = .ok (.ifCond .ne 8, 3) := by decide +kernel
theorem dX8_lots_174 : decode cX8_lots 174 = .ok (.iload 6, 2) := by decide +kernel
theorem dX8_lots_176 : decode cX8_lots 176 = .ok (.goto 5, 3) := by decide +kernel
theorem dX8_lots_179 : decode cX8_lots 179 = .ok (.iload 7, 2) := by decide +kernel
theorem dX8_lots_181 : decode cX8_lots 181 = .ok (.ireturn, 1) := by decide +kernel
theorem dX8_image_0 : decode cX8_image 0 = .ok (.aload_n 0, 1) := by decide +kernel
theorem dX8_image_1 : decode cX8_image 1 = .ok (.getfield 19, 3) := by decide +kernel
theorem dX8_image_4 : decode cX8_image 4 = .ok (.aload_n 0, 1) := by decide +kernel
theorem dX8_image_5 : decode cX8_image 5 = .ok (.getfield 10, 3) := by decide +kernel
theorem dX8_image_8 : decode cX8_image 8 = .ok (.invokevirtual 63, 3) := by decide +kernel
theorem dX8_image_11 : decode cX8_image 11 = .ok (.aload_n 0, 1) := by decide +kernel
theorem dX8_image_12 : decode cX8_image 12 = .ok (.iconst 1, 1) := by decide +kernel
theorem dX8_image_13 : decode cX8_image 13 = .ok (.putfield 22, 3) := by decide +kernel
theorem dX8_image_16 : decode cX8_image 16 = .ok (.aload_n 0, 1) := by decide +kernel
theorem dX8_image_17 : decode cX8_image 17 = .ok (.getfield 10, 3) := by decide +kernel
theorem dX8_image_20 : decode cX8_image 20 = .ok (.getfield 148, 3) := by decide +kernel
theorem dX8_image_23 : decode cX8_image 23 = .ok (.ireturn, 1) := by decide +kernel
theorem dX8_on_0 : decode cX8_on 0 = .ok (.aload_n 0, 1) := by decide +kernel
theorem dX8_on_1 : decode cX8_on 1 = .ok (.getfield 22, 3) := by decide +kernel
theorem dX8_on_4 : decode cX8_on 4 = .ok (.ifCond .ne 10, 3) := by decide +kernel
theorem dX8_on_7 : decode cX8_on 7 = .ok (.aload_n 0, 1) := by decide +kernel
theorem dX8_on_8 : decode cX8_on 8 = .ok (.bipush (-3), 2) := by decide +kernel
theorem dX8_on_10 : decode cX8_on 10 = .ok (.invokevirtual 52, 3) := by decide +kernel
theorem dX8_on_13 : decode cX8_on 13 = .ok (.ireturn, 1) := by decide +kernel
theorem dX8_on_14 : decode cX8_on 14 = .ok (.aload_n 0, 1) := by decide +kernel
theorem dX8_on_15 : decode cX8_on 15 = .ok (.getfield 10, 3) := by decide +kernel
theorem dX8_on_18 : decode cX8_on 18 = .ok (.aload_n 0, 1) := by decide +kernel
theorem dX8_on_19 : decode cX8_on 19 = .ok (.getfield 19, 3) := by decide +kernel
theorem dX8_on_22 : decode cX8_on 22 = .ok (.invokevirtual 63, 3) := by decide +kernel
theorem dX8_on_25 : decode cX8_on 25 = .ok (.aload_n 0, 1) := by decide +kernel
theorem dX8_on_26 : decode cX8_on 26 = .ok (.getfield 10, 3) := by decide +kernel
theorem dX8_on_29 : decode cX8_on 29 = .ok (.getfield 148, 3) := by decide +kernel
theorem dX8_on_32 : decode cX8_on 32 = .ok (.ireturn, 1) := by decide +kernel
theorem dX8_count_0 : decode cX8_count 0 = .ok (.iload_n 1, 1) := by decide +kernel
theorem dX8_count_1 : decode cX8_count 1 = .ok (.bipush 11, 2) := by decide +kernel
theorem dX8_count_3 : decode cX8_count 3 = .ok (.if_icmp .lt 19, 3) := by decide +kernel
theorem dX8_count_6 : decode cX8_count 6 = .ok (.iload_n 1, 1) := by decide +kernel
theorem dX8_count_7 : decode cX8_count 7 = .ok (.bipush 16, 2) := by decide +kernel
theorem dX8_count_9 : decode cX8_count 9 = .ok (.if_icmp .gt 13, 3) := by decide +kernel
theorem dX8_count_12 : decode cX8_count 12 = .ok (.aload_n 0, 1) := by decide +kernel
theorem dX8_count_13 : decode cX8_count 13 = .ok (.getfield 41, 3) := by decide +kernel
theorem dX8_count_16 : decode cX8_count 16 = .ok (.iload_n 1, 1) := by decide +kernel
theorem dX8_count_17 : decode cX8_count 17 = .ok (.bipush 10, 2) := by decide +kernel
theorem dX8_count_19 : decode cX8_count 19 = .ok (.isub, 1) := by decide +kernel
theorem dX8_count_20 : decode cX8_count 20 = .ok (.iaload, 1) := by decide +kernel
theorem dX8_count_21 : decode cX8_count 21 = .ok (.ireturn, 1) := by decide +kernel
theorem dX8_count_22 : decode cX8_count 22 = .ok (.iload_n 1, 1) := by decide +kernel
theorem dX8_count_23 : decode cX8_count 23 = .ok (.tableswitch 113 0 7 #[45, 53, 61, 69, 77, 85, 100, 105], 45) := by decide +kernel
theorem dX8_count_68 : decode cX8_count 68 = .ok (.aload_n 0, 1) := by decide +kernel
theorem dX8_count_69 : decode cX8_count 69 = .ok (.getfield 10, 3) := by decide +kernel
theorem dX8_count_72 : decode cX8_count 72 = .ok (.getfield 189, 3) := by decide +kernel
theorem dX8_count_75 : decode cX8_count 75 = .ok (.ireturn, 1) := by decide +kernel
theorem dX8_count_76 : decode cX8_count 76 = .ok (.aload_n 0, 1) := by decide +kernel
theorem dX8_count_77 : decode cX8_count 77 = .ok (.getfield 10, 3) := by decide +kernel
theorem dX8_count_80 : decode cX8_count 80 = .ok (.getfield 148, 3) := by decide +kernel
theorem dX8_count_83 : decode cX8_count 83 = .ok (.ireturn, 1) := by decide +kernel
theorem dX8_count_84 : decode cX8_count 84 = .ok (.aload_n 0, 1) := by decide +kernel
theorem dX8_count_85 : decode cX8_count 85 = .ok (.getfield 10, 3) := by decide +kernel
theorem dX8_count_88 : decode cX8_count 88 = .ok (.getfield 154, 3) := by decide +kernel
theorem dX8_count_91 : decode cX8_count 91 = .ok (.ireturn, 1) := by decide +kernel
theorem dX8_count_92 : decode cX8_count 92 = .ok (.aload_n 0, 1) := by decide +kernel
theorem dX8_count_93 : decode cX8_count 93 = .ok (.getfield 10, 3) := by decide +kernel
theorem dX8_count_96 : decode cX8_count 96 = .ok (.invokevirtual 254, 3) := by decide +kernel
theorem dX8_count_99 : decode cX8_count 99 = .ok (.ireturn, 1) := by decide +kernel
theorem dX8_count_100 : decode cX8_count 100 = .ok (.aload_n 0, 1) := by decide +kernel
theorem dX8_count_101 : decode cX8_count 101 = .ok (.getfield 10, 3) := by decide +kernel
theorem dX8_count_104 : decode cX8_count 104 = .ok (.invokevirtual 242, 3) := by decide +kernel
theorem dX8_count_107 : decode cX8_count 107 = .ok (.ireturn, 1) := by decide +kernel
theorem dX8_count_108 : decode cX8_count 108 = .ok (.aload_n 0, 1) := by decide +kernel
theorem dX8_count_109 : decode cX8_count 109 = .ok (.getfield 10, 3) := by decide +kernel
theorem dX8_count_112 : decode cX8_count 112 = .ok (.aload_n 0, 1) := by decide +kernel
theorem dX8_count_113 : decode cX8_count 113 = .ok (.getfield 10, 3) := by decide +kernel
theorem dX8_count_116 : decode cX8_count 116 = .ok (.invokevirtual 157, 3) := by decide +kernel
theorem dX8_count_119 : decode cX8_count 119 = .ok (.invokevirtual 160, 3) := by decide +kernel
theorem dX8_count_122 : decode cX8_count 122 = .ok (.ireturn, 1) := by decide +kernel
theorem dX8_count_123 : decode cX8_count 123 = .ok (.aload_n 0, 1) := by decide +kernel
theorem dX8_count_124 : decode cX8_count 124 = .ok (.getfield 37, 3) := by decide +kernel
theorem dX8_count_127 : decode cX8_count 127 = .ok (.ireturn, 1) := by decide +kernel
theorem dX8_count_128 : decode cX8_count 128 = .ok (.aload_n 0, 1) := by decide +kernel
theorem dX8_count_129 : decode cX8_count 129 = .ok (.getfield 29, 3) := by decide +kernel
theorem dX8_count_132 : decode cX8_count 132 = .ok (.getfield 60, 3) := by decide +kernel
theorem dX8_count_135 : decode cX8_count 135 = .ok (.ireturn, 1) := by decide +kernel
theorem dX8_count_136 : decode cX8_count 136 = .ok (.bipush (-9), 2) := by decide +kernel
theorem dX8_count_138 : decode cX8_count 138 = .ok (.ireturn, 1) := by decide +kernel
theorem dX8_refuse_0 : decode cX8_refuse 0 = .ok (.iload_n 1, 1) := by decide +kernel
theorem dX8_refuse_1 : decode cX8_refuse 1 = .ok (.ineg, 1) := by decide +kernel
theorem dX8_refuse_2 : decode cX8_refuse 2 = .ok (.istore_n 2, 1) := by decide +kernel
theorem dX8_refuse_3 : decode cX8_refuse 3 = .ok (.iload_n 2, 1) := by decide +kernel
theorem dX8_refuse_4 : decode cX8_refuse 4 = .ok (.ifCond .le 22, 3) := by decide +kernel
theorem dX8_refuse_7 : decode cX8_refuse 7 = .ok (.iload_n 2, 1) := by decide +kernel
theorem dX8_refuse_8 : decode cX8_refuse 8 = .ok (.aload_n 0, 1) := by decide +kernel
theorem dX8_refuse_9 : decode cX8_refuse 9 = .ok (.getfield 41, 3) := by decide +kernel
theorem dX8_refuse_12 : decode cX8_refuse 12 = .ok (.arraylength, 1) := by decide +kernel
theorem dX8_refuse_13 : decode cX8_refuse 13 = .ok (.if_icmp .ge 13, 3) := by decide +kernel
theorem dX8_refuse_16 : decode cX8_refuse 16 = .ok (.aload_n 0, 1) := by decide +kernel
theorem dX8_refuse_17 : decode cX8_refuse 17 = .ok (.getfield 41, 3) := by decide +kernel
theorem dX8_refuse_20 : decode cX8_refuse 20 = .ok (.iload_n 2, 1) := by decide +kernel
theorem dX8_refuse_21 : decode cX8_refuse 21 = .ok (.dup2, 1) := by decide +kernel
theorem dX8_refuse_22 : decode cX8_refuse 22 = .ok (.iaload, 1) := by decide +kernel
theorem dX8_refuse_23 : decode cX8_refuse 23 = .ok (.iconst 1, 1) := by decide +kernel
theorem dX8_refuse_24 : decode cX8_refuse 24 = .ok (.iadd, 1) := by decide +kernel
theorem dX8_refuse_25 : decode cX8_refuse 25 = .ok (.iastore, 1) := by decide +kernel
theorem dX8_refuse_26 : decode cX8_refuse 26 = .ok (.iload_n 1, 1) := by decide +kernel
theorem dX8_refuse_27 : decode cX8_refuse 27 = .ok (.ireturn, 1) := by decide +kernel
theorem dX8_refuseLong_0 : decode cX8_refuseLong 0 = .ok (.ldc2_w 257, 3) := by decide +kernel
theorem dX8_refuseLong_3 : decode cX8_refuseLong 3 = .ok (.aload_n 0, 1) := by decide +kernel
theorem dX8_refuseLong_4 : decode cX8_refuseLong 4 = .ok (.iload_n 1, 1) := by decide +kernel
theorem dX8_refuseLong_5 : decode cX8_refuseLong 5 = .ok (.invokevirtual 52, 3) := by decide +kernel
theorem dX8_refuseLong_8 : decode cX8_refuseLong 8 = .ok (.i2l, 1) := by decide +kernel
theorem dX8_refuseLong_9 : decode cX8_refuseLong 9 = .ok (.lsub, 1) := by decide +kernel
theorem dX8_refuseLong_10 : decode cX8_refuseLong 10 = .ok (.lreturn, 1) := by decide +kernel
theorem dX8_outside_0 : decode cX8_outside 0 = .ok (.iload_n 0, 1) := by decide +kernel
theorem dX8_outside_1 : decode cX8_outside 1 = .ok (.iload_n 1, 1) := by decide +kernel
theorem dX8_outside_2 : decode cX8_outside 2 = .ok (.if_icmp .ge 6, 3) := by decide +kernel
theorem dX8_outside_5 : decode cX8_outside 5 = .ok (.bipush (-4), 2) := by decide +kernel
theorem dX8_outside_7 : decode cX8_outside 7 = .ok (.ireturn, 1) := by decide +kernel
theorem dX8_outside_8 : decode cX8_outside 8 = .ok (.iload_n 0, 1) := by decide +kernel
theorem dX8_outside_9 : decode cX8_outside 9 = .ok (.iload_n 2, 1) := by decide +kernel
theorem dX8_outside_10 : decode cX8_outside 10 = .ok (.if_icmp .le 8, 3) := by decide +kernel
theorem dX8_outside_13 : decode cX8_outside 13 = .ok (.bipush (-6), 2) := by decide +kernel
theorem dX8_outside_15 : decode cX8_outside 15 = .ok (.goto 4, 3) := by decide +kernel
theorem dX8_outside_18 : decode cX8_outside 18 = .ok (.iconst 0, 1) := by decide +kernel
theorem dX8_outside_19 : decode cX8_outside 19 = .ok (.ireturn, 1) := by decide +kernel
theorem dX8_isEither_0 : decode cX8_isEither 0 = .ok (.iload_n 0, 1) := by decide +kernel
theorem dX8_isEither_1 : decode cX8_isEither 1 = .ok (.ifCond .eq 8, 3) := by decide +kernel
theorem dX8_isEither_4 : decode cX8_isEither 4 = .ok (.iload_n 0, 1) := by decide +kernel
theorem dX8_isEither_5 : decode cX8_isEither 5 = .ok (.iconst 1, 1) := by decide +kernel
theorem dX8_isEither_6 : decode cX8_isEither 6 = .ok (.if_icmp .ne 7, 3) := by decide +kernel
theorem dX8_isEither_9 : decode cX8_isEither 9 = .ok (.iconst 1, 1) := by decide +kernel
theorem dX8_isEither_10 : decode cX8_isEither 10 = .ok (.goto 4, 3) := by decide +kernel
theorem dX8_isEither_13 : decode cX8_isEither 13 = .ok (.iconst 0, 1) := by decide +kernel
theorem dX8_isEither_14 : decode cX8_isEither 14 = .ok (.ireturn, 1) := by decide +kernel
theorem dX8_isWeekday_0 : decode cX8_isWeekday 0 = .ok (.iload_n 0, 1) := by decide +kernel
theorem dX8_isWeekday_1 : decode cX8_isWeekday 1 = .ok (.ifCond .lt 13, 3) := by decide +kernel
theorem dX8_isWeekday_4 : decode cX8_isWeekday 4 = .ok (.iload_n 0, 1) := by decide +kernel
theorem dX8_isWeekday_5 : decode cX8_isWeekday 5 = .ok (.bipush 7, 2) := by decide +kernel
theorem dX8_isWeekday_7 : decode cX8_isWeekday 7 = .ok (.if_icmp .ge 7, 3) := by decide +kernel
theorem dX8_isWeekday_10 : decode cX8_isWeekday 10 = .ok (.iconst 1, 1) := by decide +kernel
theorem dX8_isWeekday_11 : decode cX8_isWeekday 11 = .ok (.goto 4, 3) := by decide +kernel
theorem dX8_isWeekday_14 : decode cX8_isWeekday 14 = .ok (.iconst 0, 1) := by decide +kernel
theorem dX8_isWeekday_15 : decode cX8_isWeekday 15 = .ok (.ireturn, 1) := by decide +kernel
theorem dX8_hasBit_0 : decode cX8_hasBit 0 = .ok (.iload_n 0, 1) := by decide +kernel
theorem dX8_hasBit_1 : decode cX8_hasBit 1 = .ok (.iload_n 1, 1) := by decide +kernel
theorem dX8_hasBit_2 : decode cX8_hasBit 2 = .ok (.ishr, 1) := by decide +kernel
theorem dX8_hasBit_3 : decode cX8_hasBit 3 = .ok (.iconst 1, 1) := by decide +kernel
theorem dX8_hasBit_4 : decode cX8_hasBit 4 = .ok (.iand, 1) := by decide +kernel
theorem dX8_hasBit_5 : decode cX8_hasBit 5 = .ok (.ifCond .eq 7, 3) := by decide +kernel
theorem dX8_hasBit_8 : decode cX8_hasBit 8 = .ok (.iconst 1, 1) := by decide +kernel
theorem dX8_hasBit_9 : decode cX8_hasBit 9 = .ok (.goto 4, 3) := by decide +kernel
theorem dX8_hasBit_12 : decode cX8_hasBit 12 = .ok (.iconst 0, 1) := by decide +kernel
theorem dX8_hasBit_13 : decode cX8_hasBit 13 = .ok (.ireturn, 1) := by decide +kernel
theorem dX8_areTwo_0 : decode cX8_areTwo 0 = .ok (.aload_n 0, 1) := by decide +kernel
theorem dX8_areTwo_1 : decode cX8_areTwo 1 = .ok (.getfield 10, 3) := by decide +kernel
theorem dX8_areTwo_4 : decode cX8_areTwo 4 = .ok (.iload_n 1, 1) := by decide +kernel
theorem dX8_areTwo_5 : decode cX8_areTwo 5 = .ok (.invokevirtual 87, 3) := by decide +kernel
theorem dX8_areTwo_8 : decode cX8_areTwo 8 = .ok (.ifCond .eq 23, 3) := by decide +kernel
theorem dX8_areTwo_11 : decode cX8_areTwo 11 = .ok (.aload_n 0, 1) := by decide +kernel
theorem dX8_areTwo_12 : decode cX8_areTwo 12 = .ok (.getfield 10, 3) := by decide +kernel
theorem dX8_areTwo_15 : decode cX8_areTwo 15 = .ok (.iload_n 2, 1) := by decide +kernel
theorem dX8_areTwo_16 : decode cX8_areTwo 16 = .ok (.invokevirtual 87, 3) := by decide +kernel
theorem dX8_areTwo_19 : decode cX8_areTwo 19 = .ok (.ifCond .eq 12, 3) := by decide +kernel
theorem dX8_areTwo_22 : decode cX8_areTwo 22 = .ok (.iload_n 1, 1) := by decide +kernel
theorem dX8_areTwo_23 : decode cX8_areTwo 23 = .ok (.iload_n 2, 1) := by decide +kernel
theorem dX8_areTwo_24 : decode cX8_areTwo 24 = .ok (.if_icmp .eq 7, 3) := by decide +kernel
theorem dX8_areTwo_27 : decode cX8_areTwo 27 = .ok (.iconst 1, 1) := by decide +kernel
theorem dX8_areTwo_28 : decode cX8_areTwo 28 = .ok (.goto 4, 3) := by decide +kernel
theorem dX8_areTwo_31 : decode cX8_areTwo 31 = .ok (.iconst 0, 1) := by decide +kernel
theorem dX8_areTwo_32 : decode cX8_areTwo 32 = .ok (.ireturn, 1) := by decide +kernel
theorem dX8_daysTillFall_0 : decode cX8_daysTillFall 0 = .ok (.iconst 0, 1) := by decide +kernel
theorem dX8_daysTillFall_1 : decode cX8_daysTillFall 1 = .ok (.istore_n 3, 1) := by decide +kernel
theorem dX8_daysTillFall_2 : decode cX8_daysTillFall 2 = .ok (.iload_n 3, 1) := by decide +kernel
theorem dX8_daysTillFall_3 : decode cX8_daysTillFall 3 = .ok (.iload_n 2, 1) := by decide +kernel
theorem dX8_daysTillFall_4 : decode cX8_daysTillFall 4 = .ok (.if_icmp .gt 37, 3) := by decide +kernel
theorem dX8_daysTillFall_7 : decode cX8_daysTillFall 7 = .ok (.iload_n 3, 1) := by decide +kernel
theorem dX8_daysTillFall_8 : decode cX8_daysTillFall 8 = .ok (.ifCond .le 13, 3) := by decide +kernel
theorem dX8_daysTillFall_11 : decode cX8_daysTillFall 11 = .ok (.aload_n 0, 1) := by decide +kernel
theorem dX8_daysTillFall_12 : decode cX8_daysTillFall 12 = .ok (.getfield 16, 3) := by decide +kernel
theorem dX8_daysTillFall_15 : decode cX8_daysTillFall 15 = .ok (.iconst 1, 1) := by decide +kernel
theorem dX8_daysTillFall_16 : decode cX8_daysTillFall 16 = .ok (.iconst 0, 1) := by decide +kernel
theorem dX8_daysTillFall_17 : decode cX8_daysTillFall 17 = .ok (.invokevirtual 151, 3) := by decide +kernel
theorem dX8_daysTillFall_20 : decode cX8_daysTillFall 20 = .ok (.pop, 1) := by decide +kernel
theorem dX8_daysTillFall_21 : decode cX8_daysTillFall 21 = .ok (.aload_n 0, 1) := by decide +kernel
theorem dX8_daysTillFall_22 : decode cX8_daysTillFall 22 = .ok (.getfield 16, 3) := by decide +kernel
theorem dX8_daysTillFall_25 : decode cX8_daysTillFall 25 = .ok (.invokevirtual 166, 3) := by decide +kernel
theorem dX8_daysTillFall_28 : decode cX8_daysTillFall 28 = .ok (.iload_n 1, 1) := by decide +kernel
theorem dX8_daysTillFall_29 : decode cX8_daysTillFall 29 = .ok (.iand, 1) := by decide +kernel
theorem dX8_daysTillFall_30 : decode cX8_daysTillFall 30 = .ok (.ifCond .eq 5, 3) := by decide +kernel
theorem dX8_daysTillFall_33 : decode cX8_daysTillFall 33 = .ok (.iload_n 3, 1) := by decide +kernel
theorem dX8_daysTillFall_34 : decode cX8_daysTillFall 34 = .ok (.ireturn, 1) := by decide +kernel
theorem dX8_daysTillFall_35 : decode cX8_daysTillFall 35 = .ok (.iinc 3 1, 3) := by decide +kernel
theorem dX8_daysTillFall_38 : decode cX8_daysTillFall 38 = .ok (.goto (-36), 3) := by decide +kernel
theorem dX8_daysTillFall_41 : decode cX8_daysTillFall 41 = .ok (.bipush (-9), 2) := by decide +kernel
theorem dX8_daysTillFall_43 : decode cX8_daysTillFall 43 = .ok (.ireturn, 1) := by decide +kernel
theorem dX8_nobodyFalls_0 : decode cX8_nobodyFalls 0 = .ok (.aload_n 0, 1) := by decide +kernel
theorem dX8_nobodyFalls_1 : decode cX8_nobodyFalls 1 = .ok (.getfield 16, 3) := by decide +kernel
theorem dX8_nobodyFalls_4 : decode cX8_nobodyFalls 4 = .ok (.aload_n 0, 1) := by decide +kernel
theorem dX8_nobodyFalls_5 : decode cX8_nobodyFalls 5 = .ok (.getfield 10, 3) := by decide +kernel
theorem dX8_nobodyFalls_8 : decode cX8_nobodyFalls 8 = .ok (.invokevirtual 63, 3) := by decide +kernel
theorem dX8_nobodyFalls_11 : decode cX8_nobodyFalls 11 = .ok (.aload_n 0, 1) := by decide +kernel
theorem dX8_nobodyFalls_12 : decode cX8_nobodyFalls 12 = .ok (.getfield 16, 3) := by decide +kernel
theorem dX8_nobodyFalls_15 : decode cX8_nobodyFalls 15 = .ok (.iload_n 1, 1) := by decide +kernel
theorem dX8_nobodyFalls_16 : decode cX8_nobodyFalls 16 = .ok (.bipush 127, 2) := by decide +kernel
theorem dX8_nobodyFalls_18 : decode cX8_nobodyFalls 18 = .ok (.invokevirtual 217, 3) := by decide +kernel
theorem dX8_nobodyFalls_21 : decode cX8_nobodyFalls 21 = .ok (.aload_n 0, 1) := by decide +kernel
theorem dX8_nobodyFalls_22 : decode cX8_nobodyFalls 22 = .ok (.bipush 63, 2) := by decide +kernel
theorem dX8_nobodyFalls_24 : decode cX8_nobodyFalls 24 = .ok (.iload_n 2, 1) := by decide +kernel
theorem dX8_nobodyFalls_25 : decode cX8_nobodyFalls 25 = .ok (.invokevirtual 163, 3) := by decide +kernel
theorem dX8_nobodyFalls_28 : decode cX8_nobodyFalls 28 = .ok (.bipush (-9), 2) := by decide +kernel
theorem dX8_nobodyFalls_30 : decode cX8_nobodyFalls 30 = .ok (.if_icmp .ne 7, 3) := by decide +kernel
theorem dX8_nobodyFalls_33 : decode cX8_nobodyFalls 33 = .ok (.iconst 1, 1) := by decide +kernel
theorem dX8_nobodyFalls_34 : decode cX8_nobodyFalls 34 = .ok (.goto 4, 3) := by decide +kernel
theorem dX8_nobodyFalls_37 : decode cX8_nobodyFalls 37 = .ok (.iconst 0, 1) := by decide +kernel
theorem dX8_nobodyFalls_38 : decode cX8_nobodyFalls 38 = .ok (.ireturn, 1) := by decide +kernel
theorem dX8_allTiredBehind_0 : decode cX8_allTiredBehind 0 = .ok (.aload_n 0, 1) := by decide +kernel
theorem dX8_allTiredBehind_1 : decode cX8_allTiredBehind 1 = .ok (.getfield 16, 3) := by decide +kernel
theorem dX8_allTiredBehind_4 : decode cX8_allTiredBehind 4 = .ok (.iload_n 1, 1) := by decide +kernel
theorem dX8_allTiredBehind_5 : decode cX8_allTiredBehind 5 = .ok (.iconst 0, 1) := by decide +kernel
theorem dX8_allTiredBehind_6 : decode cX8_allTiredBehind 6 = .ok (.invokevirtual 151, 3) := by decide +kernel
theorem dX8_allTiredBehind_9 : decode cX8_allTiredBehind 9 = .ok (.pop, 1) := by decide +kernel
theorem dX8_allTiredBehind_10 : decode cX8_allTiredBehind 10 = .ok (.aload_n 0, 1) := by decide +kernel
theorem dX8_allTiredBehind_11 : decode cX8_allTiredBehind 11 = .ok (.getfield 16, 3) := by decide +kernel
theorem dX8_allTiredBehind_14 : decode cX8_allTiredBehind 14 = .ok (.invokevirtual 242, 3) := by decide +kernel
theorem dX8_allTiredBehind_17 : decode cX8_allTiredBehind 17 = .ok (.ireturn, 1) := by decide +kernel
theorem dX8_bothTiredBehind_0 : decode cX8_bothTiredBehind 0 = .ok (.aload_n 0, 1) := by decide +kernel
theorem dX8_bothTiredBehind_1 : decode cX8_bothTiredBehind 1 = .ok (.getfield 16, 3) := by decide +kernel
theorem dX8_bothTiredBehind_4 : decode cX8_bothTiredBehind 4 = .ok (.iload_n 3, 1) := by decide +kernel
theorem dX8_bothTiredBehind_5 : decode cX8_bothTiredBehind 5 = .ok (.iconst 0, 1) := by decide +kernel
theorem dX8_bothTiredBehind_6 : decode cX8_bothTiredBehind 6 = .ok (.invokevirtual 151, 3) := by decide +kernel
theorem dX8_bothTiredBehind_9 : decode cX8_bothTiredBehind 9 = .ok (.pop, 1) := by decide +kernel
theorem dX8_bothTiredBehind_10 : decode cX8_bothTiredBehind 10 = .ok (.aload_n 0, 1) := by decide +kernel
theorem dX8_bothTiredBehind_11 : decode cX8_bothTiredBehind 11 = .ok (.getfield 16, 3) := by decide +kernel
theorem dX8_bothTiredBehind_14 : decode cX8_bothTiredBehind 14 = .ok (.getfield 100, 3) := by decide +kernel
theorem dX8_bothTiredBehind_17 : decode cX8_bothTiredBehind 17 = .ok (.iload_n 1, 1) := by decide +kernel
theorem dX8_bothTiredBehind_18 : decode cX8_bothTiredBehind 18 = .ok (.iaload, 1) := by decide +kernel
theorem dX8_bothTiredBehind_19 : decode cX8_bothTiredBehind 19 = .ok (.aload_n 0, 1) := by decide +kernel
theorem dX8_bothTiredBehind_20 : decode cX8_bothTiredBehind 20 = .ok (.getfield 16, 3) := by decide +kernel
theorem dX8_bothTiredBehind_23 : decode cX8_bothTiredBehind 23 = .ok (.getfield 100, 3) := by decide +kernel
theorem dX8_bothTiredBehind_26 : decode cX8_bothTiredBehind 26 = .ok (.iload_n 2, 1) := by decide +kernel
theorem dX8_bothTiredBehind_27 : decode cX8_bothTiredBehind 27 = .ok (.iaload, 1) := by decide +kernel
theorem dX8_bothTiredBehind_28 : decode cX8_bothTiredBehind 28 = .ok (.iadd, 1) := by decide +kernel
theorem dX8_bothTiredBehind_29 : decode cX8_bothTiredBehind 29 = .ok (.ireturn, 1) := by decide +kernel
theorem dX8_wagesBehind_0 : decode cX8_wagesBehind 0 = .ok (.aload_n 0, 1) := by decide +kernel
theorem dX8_wagesBehind_1 : decode cX8_wagesBehind 1 = .ok (.getfield 16, 3) := by decide +kernel
theorem dX8_wagesBehind_4 : decode cX8_wagesBehind 4 = .ok (.aload_n 0, 1) := by decide +kernel
theorem dX8_wagesBehind_5 : decode cX8_wagesBehind 5 = .ok (.getfield 10, 3) := by decide +kernel
theorem dX8_wagesBehind_8 : decode cX8_wagesBehind 8 = .ok (.invokevirtual 63, 3) := by decide +kernel
theorem dX8_wagesBehind_11 : decode cX8_wagesBehind 11 = .ok (.aload_n 0, 1) := by decide +kernel
theorem dX8_wagesBehind_12 : decode cX8_wagesBehind 12 = .ok (.getfield 16, 3) := by decide +kernel
theorem dX8_wagesBehind_15 : decode cX8_wagesBehind 15 = .ok (.iload_n 2, 1) := by decide +kernel
theorem dX8_wagesBehind_16 : decode cX8_wagesBehind 16 = .ok (.bipush 127, 2) := by decide +kernel
theorem dX8_wagesBehind_18 : decode cX8_wagesBehind 18 = .ok (.invokevirtual 217, 3) := by decide +kernel
theorem dX8_wagesBehind_21 : decode cX8_wagesBehind 21 = .ok (.aload_n 0, 1) := by decide +kernel
theorem dX8_wagesBehind_22 : decode cX8_wagesBehind 22 = .ok (.getfield 16, 3) := by decide +kernel
theorem dX8_wagesBehind_25 : decode cX8_wagesBehind 25 = .ok (.iload_n 1, 1) := by decide +kernel
theorem dX8_wagesBehind_26 : decode cX8_wagesBehind 26 = .ok (.iconst 0, 1) := by decide +kernel
theorem dX8_wagesBehind_27 : decode cX8_wagesBehind 27 = .ok (.invokevirtual 151, 3) := by decide +kernel
theorem dX8_wagesBehind_30 : decode cX8_wagesBehind 30 = .ok (.pop, 1) := by decide +kernel
theorem dX8_wagesBehind_31 : decode cX8_wagesBehind 31 = .ok (.aload_n 0, 1) := by decide +kernel
theorem dX8_wagesBehind_32 : decode cX8_wagesBehind 32 = .ok (.getfield 16, 3) := by decide +kernel
theorem dX8_wagesBehind_35 : decode cX8_wagesBehind 35 = .ok (.getfield 154, 3) := by decide +kernel
theorem dX8_wagesBehind_38 : decode cX8_wagesBehind 38 = .ok (.ireturn, 1) := by decide +kernel
theorem dX8_keepsTo_0 : decode cX8_keepsTo 0 = .ok (.aload_n 0, 1) := by decide +kernel
theorem dX8_keepsTo_1 : decode cX8_keepsTo 1 = .ok (.iload_n 1, 1) := by decide +kernel
theorem dX8_keepsTo_2 : decode cX8_keepsTo 2 = .ok (.iload_n 2, 1) := by decide +kernel
theorem dX8_keepsTo_3 : decode cX8_keepsTo 3 = .ok (.iload_n 3, 1) := by decide +kernel
theorem dX8_keepsTo_4 : decode cX8_keepsTo 4 = .ok (.invokevirtual 259, 3) := by decide +kernel
theorem dX8_keepsTo_7 : decode cX8_keepsTo 7 = .ok (.aload_n 0, 1) := by decide +kernel
theorem dX8_keepsTo_8 : decode cX8_keepsTo 8 = .ok (.iload_n 1, 1) := by decide +kernel
theorem dX8_keepsTo_9 : decode cX8_keepsTo 9 = .ok (.iload_n 2, 1) := by decide +kernel
theorem dX8_keepsTo_10 : decode cX8_keepsTo 10 = .ok (.iconst 1, 1) := by decide +kernel
theorem dX8_keepsTo_11 : decode cX8_keepsTo 11 = .ok (.iload_n 1, 1) := by decide +kernel
theorem dX8_keepsTo_12 : decode cX8_keepsTo 12 = .ok (.ishl, 1) := by decide +kernel
theorem dX8_keepsTo_13 : decode cX8_keepsTo 13 = .ok (.ixor, 1) := by decide +kernel
theorem dX8_keepsTo_14 : decode cX8_keepsTo 14 = .ok (.iload_n 3, 1) := by decide +kernel
theorem dX8_keepsTo_15 : decode cX8_keepsTo 15 = .ok (.invokevirtual 259, 3) := by decide +kernel
theorem dX8_keepsTo_18 : decode cX8_keepsTo 18 = .ok (.if_icmp .gt 7, 3) := by decide +kernel
theorem dX8_keepsTo_21 : decode cX8_keepsTo 21 = .ok (.iconst 1, 1) := by decide +kernel
theorem dX8_keepsTo_22 : decode cX8_keepsTo 22 = .ok (.goto 4, 3) := by decide +kernel
theorem dX8_keepsTo_25 : decode cX8_keepsTo 25 = .ok (.iconst 0, 1) := by decide +kernel
theorem dX8_keepsTo_26 : decode cX8_keepsTo 26 = .ok (.ireturn, 1) := by decide +kernel
theorem dX8_feltTired_0 : decode cX8_feltTired 0 = .ok (.aload_n 0, 1) := by decide +kernel
theorem dX8_feltTired_1 : decode cX8_feltTired 1 = .ok (.getfield 16, 3) := by decide +kernel
theorem dX8_feltTired_4 : decode cX8_feltTired 4 = .ok (.aload_n 0, 1) := by decide +kernel
theorem dX8_feltTired_5 : decode cX8_feltTired 5 = .ok (.getfield 10, 3) := by decide +kernel
theorem dX8_feltTired_8 : decode cX8_feltTired 8 = .ok (.invokevirtual 63, 3) := by decide +kernel
theorem dX8_feltTired_11 : decode cX8_feltTired 11 = .ok (.aload_n 0, 1) := by decide +kernel
theorem dX8_feltTired_12 : decode cX8_feltTired 12 = .ok (.getfield 16, 3) := by decide +kernel
theorem dX8_feltTired_15 : decode cX8_feltTired 15 = .ok (.iload_n 3, 1) := by decide +kernel
theorem dX8_feltTired_16 : decode cX8_feltTired 16 = .ok (.iload_n 2, 1) := by decide +kernel
theorem dX8_feltTired_17 : decode cX8_feltTired 17 = .ok (.invokevirtual 151, 3) := by decide +kernel
theorem dX8_feltTired_20 : decode cX8_feltTired 20 = .ok (.pop, 1) := by decide +kernel
theorem dX8_feltTired_21 : decode cX8_feltTired 21 = .ok (.iload_n 2, 1) := by decide +kernel
theorem dX8_feltTired_22 : decode cX8_feltTired 22 = .ok (.iload_n 1, 1) := by decide +kernel
theorem dX8_feltTired_23 : decode cX8_feltTired 23 = .ok (.invokestatic 262, 3) := by decide +kernel
theorem dX8_feltTired_26 : decode cX8_feltTired 26 = .ok (.istore 4, 2) := by decide +kernel
theorem dX8_feltTired_28 : decode cX8_feltTired 28 = .ok (.iload 4, 2) := by decide +kernel
theorem dX8_feltTired_30 : decode cX8_feltTired 30 = .ok (.ifCond .eq 17, 3) := by decide +kernel
theorem dX8_feltTired_33 : decode cX8_feltTired 33 = .ok (.aload_n 0, 1) := by decide +kernel
theorem dX8_feltTired_34 : decode cX8_feltTired 34 = .ok (.getfield 16, 3) := by decide +kernel
theorem dX8_feltTired_37 : decode cX8_feltTired 37 = .ok (.getfield 100, 3) := by decide +kernel
theorem dX8_feltTired_40 : decode cX8_feltTired 40 = .ok (.iload_n 1, 1) := by decide +kernel
theorem dX8_feltTired_41 : decode cX8_feltTired 41 = .ok (.iaload, 1) := by decide +kernel
theorem dX8_feltTired_42 : decode cX8_feltTired 42 = .ok (.iconst 2, 1) := by decide +kernel
theorem dX8_feltTired_43 : decode cX8_feltTired 43 = .ok (.isub, 1) := by decide +kernel
theorem dX8_feltTired_44 : decode cX8_feltTired 44 = .ok (.goto 12, 3) := by decide +kernel
theorem dX8_feltTired_47 : decode cX8_feltTired 47 = .ok (.aload_n 0, 1) := by decide +kernel
theorem dX8_feltTired_48 : decode cX8_feltTired 48 = .ok (.getfield 16, 3) := by decide +kernel
theorem dX8_feltTired_51 : decode cX8_feltTired 51 = .ok (.getfield 100, 3) := by decide +kernel
theorem dX8_feltTired_54 : decode cX8_feltTired 54 = .ok (.iload_n 1, 1) := by decide +kernel
theorem dX8_feltTired_55 : decode cX8_feltTired 55 = .ok (.iaload, 1) := by decide +kernel
theorem dX8_feltTired_56 : decode cX8_feltTired 56 = .ok (.ireturn, 1) := by decide +kernel
theorem dX8_feverRefusal_0 : decode cX8_feverRefusal 0 = .ok (.aload_n 0, 1) := by decide +kernel
theorem dX8_feverRefusal_1 : decode cX8_feverRefusal 1 = .ok (.getfield 10, 3) := by decide +kernel
theorem dX8_feverRefusal_4 : decode cX8_feverRefusal 4 = .ok (.iload_n 1, 1) := by decide +kernel
theorem dX8_feverRefusal_5 : decode cX8_feverRefusal 5 = .ok (.invokevirtual 87, 3) := by decide +kernel
theorem dX8_feverRefusal_8 : decode cX8_feverRefusal 8 = .ok (.ifCond .ne 5, 3) := by decide +kernel
theorem dX8_feverRefusal_11 : decode cX8_feverRefusal 11 = .ok (.iconst (-1), 1) := by decide +kernel
theorem dX8_feverRefusal_12 : decode cX8_feverRefusal 12 = .ok (.ireturn, 1) := by decide +kernel
theorem dX8_feverRefusal_13 : decode cX8_feverRefusal 13 = .ok (.iload_n 2, 1) := by decide +kernel
theorem dX8_feverRefusal_14 : decode cX8_feverRefusal 14 = .ok (.ifCond .lt 13, 3) := by decide +kernel
theorem dX8_feverRefusal_17 : decode cX8_feverRefusal 17 = .ok (.iload 4, 2) := by decide +kernel
theorem dX8_feverRefusal_19 : decode cX8_feverRefusal 19 = .ok (.ifCond .lt 8, 3) := by decide +kernel
theorem dX8_feverRefusal_22 : decode cX8_feverRefusal 22 = .ok (.iload_n 3, 1) := by decide +kernel
theorem dX8_feverRefusal_23 : decode cX8_feverRefusal 23 = .ok (.iconst 2, 1) := by decide +kernel
theorem dX8_feverRefusal_24 : decode cX8_feverRefusal 24 = .ok (.if_icmp .ge 6, 3) := by decide +kernel
theorem dX8_feverRefusal_27 : decode cX8_feverRefusal 27 = .ok (.bipush (-4), 2) := by decide +kernel
theorem dX8_feverRefusal_29 : decode cX8_feverRefusal 29 = .ok (.ireturn, 1) := by decide +kernel
theorem dX8_feverRefusal_30 : decode cX8_feverRefusal 30 = .ok (.iload_n 2, 1) := by decide +kernel
theorem dX8_feverRefusal_31 : decode cX8_feverRefusal 31 = .ok (.bipush 7, 2) := by decide +kernel
theorem dX8_feverRefusal_33 : decode cX8_feverRefusal 33 = .ok (.if_icmp .gt 16, 3) := by decide +kernel
theorem dX8_feverRefusal_36 : decode cX8_feverRefusal 36 = .ok (.iload_n 3, 1) := by decide +kernel
theorem dX8_feverRefusal_37 : decode cX8_feverRefusal 37 = .ok (.bipush 20, 2) := by decide +kernel
theorem dX8_feverRefusal_39 : decode cX8_feverRefusal 39 = .ok (.if_icmp .gt 10, 3) := by decide +kernel
theorem dX8_feverRefusal_42 : decode cX8_feverRefusal 42 = .ok (.iload 4, 2) := by decide +kernel
theorem dX8_feverRefusal_44 : decode cX8_feverRefusal 44 = .ok (.bipush 30, 2) := by decide +kernel
theorem dX8_feverRefusal_46 : decode cX8_feverRefusal 46 = .ok (.if_icmp .le 6, 3) := by decide +kernel
theorem dX8_feverRefusal_49 : decode cX8_feverRefusal 49 = .ok (.bipush (-6), 2) := by decide +kernel
theorem dX8_feverRefusal_51 : decode cX8_feverRefusal 51 = .ok (.ireturn, 1) := by decide +kernel
theorem dX8_feverRefusal_52 : decode cX8_feverRefusal 52 = .ok (.iload 5, 2) := by decide +kernel
theorem dX8_feverRefusal_54 : decode cX8_feverRefusal 54 = .ok (.invokestatic 115, 3) := by decide +kernel
theorem dX8_feverRefusal_57 : decode cX8_feverRefusal 57 = .ok (.ifCond .eq 7, 3) := by decide +kernel
theorem dX8_feverRefusal_60 : decode cX8_feverRefusal 60 = .ok (.iconst 0, 1) := by decide +kernel
theorem dX8_feverRefusal_61 : decode cX8_feverRefusal 61 = .ok (.goto 5, 3) := by decide +kernel
theorem dX8_feverRefusal_64 : decode cX8_feverRefusal 64 = .ok (.bipush (-2), 2) := by decide +kernel
theorem dX8_feverRefusal_66 : decode cX8_feverRefusal 66 = .ok (.ireturn, 1) := by decide +kernel
theorem dX8_tiredByFevers_0 : decode cX8_tiredByFevers 0 = .ok (.aload_n 0, 1) := by decide +kernel
theorem dX8_tiredByFevers_1 : decode cX8_tiredByFevers 1 = .ok (.getfield 16, 3) := by decide +kernel
theorem dX8_tiredByFevers_4 : decode cX8_tiredByFevers 4 = .ok (.aload_n 0, 1) := by decide +kernel
theorem dX8_tiredByFevers_5 : decode cX8_tiredByFevers 5 = .ok (.getfield 10, 3) := by decide +kernel
theorem dX8_tiredByFevers_8 : decode cX8_tiredByFevers 8 = .ok (.invokevirtual 63, 3) := by decide +kernel
theorem dX8_tiredByFevers_11 : decode cX8_tiredByFevers 11 = .ok (.iconst 0, 1) := by decide +kernel
theorem dX8_tiredByFevers_12 : decode cX8_tiredByFevers 12 = .ok (.istore 4, 2) := by decide +kernel
theorem dX8_tiredByFevers_14 : decode cX8_tiredByFevers 14 = .ok (.iload 4, 2) := by decide +kernel
theorem dX8_tiredByFevers_16 : decode cX8_tiredByFevers 16 = .ok (.iload_n 2, 1) := by decide +kernel
theorem dX8_tiredByFevers_17 : decode cX8_tiredByFevers 17 = .ok (.if_icmp .ge 33, 3) := by decide +kernel
theorem dX8_tiredByFevers_20 : decode cX8_tiredByFevers 20 = .ok (.aload_n 0, 1) := by decide +kernel
theorem dX8_tiredByFevers_21 : decode cX8_tiredByFevers 21 = .ok (.getfield 16, 3) := by decide +kernel
theorem dX8_tiredByFevers_24 : decode cX8_tiredByFevers 24 = .ok (.iconst 1, 1) := by decide +kernel
theorem dX8_tiredByFevers_25 : decode cX8_tiredByFevers 25 = .ok (.iload_n 3, 1) := by decide +kernel
theorem dX8_tiredByFevers_26 : decode cX8_tiredByFevers 26 = .ok (.iload 4, 2) := by decide +kernel
theorem dX8_tiredByFevers_28 : decode cX8_tiredByFevers 28 = .ok (.invokestatic 262, 3) := by decide +kernel
theorem dX8_tiredByFevers_31 : decode cX8_tiredByFevers 31 = .ok (.ifCond .eq 8, 3) := by decide +kernel
theorem dX8_tiredByFevers_34 : decode cX8_tiredByFevers 34 = .ok (.bipush 63, 2) := by decide +kernel
theorem dX8_tiredByFevers_36 : decode cX8_tiredByFevers 36 = .ok (.goto 4, 3) := by decide +kernel
theorem dX8_tiredByFevers_39 : decode cX8_tiredByFevers 39 = .ok (.iconst 0, 1) := by decide +kernel
theorem dX8_tiredByFevers_40 : decode cX8_tiredByFevers 40 = .ok (.invokevirtual 151, 3) := by decide +kernel
theorem dX8_tiredByFevers_43 : decode cX8_tiredByFevers 43 = .ok (.pop, 1) := by decide +kernel
theorem dX8_tiredByFevers_44 : decode cX8_tiredByFevers 44 = .ok (.iinc 4 1, 3) := by decide +kernel
theorem dX8_tiredByFevers_47 : decode cX8_tiredByFevers 47 = .ok (.goto (-33), 3) := by decide +kernel
theorem dX8_tiredByFevers_50 : decode cX8_tiredByFevers 50 = .ok (.aload_n 0, 1) := by decide +kernel
theorem dX8_tiredByFevers_51 : decode cX8_tiredByFevers 51 = .ok (.getfield 16, 3) := by decide +kernel
theorem dX8_tiredByFevers_54 : decode cX8_tiredByFevers 54 = .ok (.getfield 100, 3) := by decide +kernel
theorem dX8_tiredByFevers_57 : decode cX8_tiredByFevers 57 = .ok (.iload_n 1, 1) := by decide +kernel
theorem dX8_tiredByFevers_58 : decode cX8_tiredByFevers 58 = .ok (.iaload, 1) := by decide +kernel
theorem dX8_tiredByFevers_59 : decode cX8_tiredByFevers 59 = .ok (.ireturn, 1) := by decide +kernel
theorem dX8_waysOfFevers_0 : decode cX8_waysOfFevers 0 = .ok (.lconst 1, 1) := by decide +kernel
theorem dX8_waysOfFevers_1 : decode cX8_waysOfFevers 1 = .ok (.lstore_n 3, 1) := by decide +kernel
theorem dX8_waysOfFevers_2 : decode cX8_waysOfFevers 2 = .ok (.iconst 0, 1) := by decide +kernel
theorem dX8_waysOfFevers_3 : decode cX8_waysOfFevers 3 = .ok (.istore 5, 2) := by decide +kernel
theorem dX8_waysOfFevers_5 : decode cX8_waysOfFevers 5 = .ok (.iload 5, 2) := by decide +kernel
theorem dX8_waysOfFevers_7 : decode cX8_waysOfFevers 7 = .ok (.iload_n 0, 1) := by decide +kernel
theorem dX8_waysOfFevers_8 : decode cX8_waysOfFevers 8 = .ok (.if_icmp .ge 25, 3) := by decide +kernel
theorem dX8_waysOfFevers_11 : decode cX8_waysOfFevers 11 = .ok (.iload_n 1, 1) := by decide +kernel
theorem dX8_waysOfFevers_12 : decode cX8_waysOfFevers 12 = .ok (.iload 5, 2) := by decide +kernel
theorem dX8_waysOfFevers_14 : decode cX8_waysOfFevers 14 = .ok (.invokestatic 262, 3) := by decide +kernel
theorem dX8_waysOfFevers_17 : decode cX8_waysOfFevers 17 = .ok (.ifCond .ne 10, 3) := by decide +kernel
theorem dX8_waysOfFevers_20 : decode cX8_waysOfFevers 20 = .ok (.lload_n 3, 1) := by decide +kernel
theorem dX8_waysOfFevers_21 : decode cX8_waysOfFevers 21 = .ok (.iload_n 2, 1) := by decide +kernel
theorem dX8_waysOfFevers_22 : decode cX8_waysOfFevers 22 = .ok (.iconst 1, 1) := by decide +kernel
theorem dX8_waysOfFevers_23 : decode cX8_waysOfFevers 23 = .ok (.isub, 1) := by decide +kernel
theorem dX8_waysOfFevers_24 : decode cX8_waysOfFevers 24 = .ok (.i2l, 1) := by decide +kernel
theorem dX8_waysOfFevers_25 : decode cX8_waysOfFevers 25 = .ok (.lmul, 1) := by decide +kernel
theorem dX8_waysOfFevers_26 : decode cX8_waysOfFevers 26 = .ok (.lstore_n 3, 1) := by decide +kernel
theorem dX8_waysOfFevers_27 : decode cX8_waysOfFevers 27 = .ok (.iinc 5 1, 3) := by decide +kernel
theorem dX8_waysOfFevers_30 : decode cX8_waysOfFevers 30 = .ok (.goto (-25), 3) := by decide +kernel
theorem dX8_waysOfFevers_33 : decode cX8_waysOfFevers 33 = .ok (.lload_n 3, 1) := by decide +kernel
theorem dX8_waysOfFevers_34 : decode cX8_waysOfFevers 34 = .ok (.lreturn, 1) := by decide +kernel
theorem dX8_partOf_0 : decode cX8_partOf 0 = .ok (.lload_n 0, 1) := by decide +kernel
theorem dX8_partOf_1 : decode cX8_partOf 1 = .ok (.lload_n 2, 1) := by decide +kernel
theorem dX8_partOf_2 : decode cX8_partOf 2 = .ok (.invokestatic 265, 3) := by decide +kernel
theorem dX8_partOf_5 : decode cX8_partOf 5 = .ok (.lstore 5, 2) := by decide +kernel
theorem dX8_partOf_7 : decode cX8_partOf 7 = .ok (.lload 5, 2) := by decide +kernel
theorem dX8_partOf_9 : decode cX8_partOf 9 = .ok (.lconst 0, 1) := by decide +kernel
theorem dX8_partOf_10 : decode cX8_partOf 10 = .ok (.lcmp, 1) := by decide +kernel
theorem dX8_partOf_11 : decode cX8_partOf 11 = .ok (.ifCond .ne 5, 3) := by decide +kernel
theorem dX8_partOf_14 : decode cX8_partOf 14 = .ok (.lconst 0, 1) := by decide +kernel
theorem dX8_partOf_15 : decode cX8_partOf 15 = .ok (.lreturn, 1) := by decide +kernel
theorem dX8_partOf_16 : decode cX8_partOf 16 = .ok (.iload 4, 2) := by decide +kernel
theorem dX8_partOf_18 : decode cX8_partOf 18 = .ok (.ifCond .ne 10, 3) := by decide +kernel
theorem dX8_partOf_21 : decode cX8_partOf 21 = .ok (.lload_n 0, 1) := by decide +kernel
theorem dX8_partOf_22 : decode cX8_partOf 22 = .ok (.lload 5, 2) := by decide +kernel
theorem dX8_partOf_24 : decode cX8_partOf 24 = .ok (.ldiv, 1) := by decide +kernel
theorem dX8_partOf_25 : decode cX8_partOf 25 = .ok (.goto 7, 3) := by decide +kernel
theorem dX8_partOf_28 : decode cX8_partOf 28 = .ok (.lload_n 2, 1) := by decide +kernel
theorem dX8_partOf_29 : decode cX8_partOf 29 = .ok (.lload 5, 2) := by decide +kernel
theorem dX8_partOf_31 : decode cX8_partOf 31 = .ok (.ldiv, 1) := by decide +kernel
theorem dX8_partOf_32 : decode cX8_partOf 32 = .ok (.lreturn, 1) := by decide +kernel
theorem dX8_commonDivisor_0 : decode cX8_commonDivisor 0 = .ok (.lload_n 0, 1) := by decide +kernel
theorem dX8_commonDivisor_1 : decode cX8_commonDivisor 1 = .ok (.lstore 4, 2) := by decide +kernel
theorem dX8_commonDivisor_3 : decode cX8_commonDivisor 3 = .ok (.lload_n 2, 1) := by decide +kernel
theorem dX8_commonDivisor_4 : decode cX8_commonDivisor 4 = .ok (.lstore 6, 2) := by decide +kernel
theorem dX8_commonDivisor_6 : decode cX8_commonDivisor 6 = .ok (.iconst 0, 1) := by decide +kernel
theorem dX8_commonDivisor_7 : decode cX8_commonDivisor 7 = .ok (.istore 8, 2) := by decide +kernel
theorem dX8_commonDivisor_9 : decode cX8_commonDivisor 9 = .ok (.iload 8, 2) := by decide +kernel
theorem dX8_commonDivisor_11 : decode cX8_commonDivisor 11 = .ok (.bipush 100, 2) := by decide +kernel
theorem dX8_commonDivisor_13 : decode cX8_commonDivisor 13 = .ok (.if_icmp .ge 31, 3) := by decide +kernel
theorem dX8_commonDivisor_16 : decode cX8_commonDivisor 16 = .ok (.lload 6, 2) := by decide +kernel
theorem dX8_commonDivisor_18 : decode cX8_commonDivisor 18 = .ok (.lconst 0, 1) := by decide +kernel
theorem dX8_commonDivisor_19 : decode cX8_commonDivisor 19 = .ok (.lcmp, 1) := by decide +kernel
theorem dX8_commonDivisor_20 : decode cX8_commonDivisor 20 = .ok (.ifCond .eq 24, 3) := by decide +kernel
theorem dX8_commonDivisor_23 : decode cX8_commonDivisor 23 = .ok (.lload 4, 2) := by decide +kernel
theorem dX8_commonDivisor_25 : decode cX8_commonDivisor 25 = .ok (.lload 6, 2) := by decide +kernel
theorem dX8_commonDivisor_27 : decode cX8_commonDivisor 27 = .ok (.lrem, 1) := by decide +kernel
theorem dX8_commonDivisor_28 : decode cX8_commonDivisor 28 = .ok (.lstore 9, 2) := by decide +kernel
theorem dX8_commonDivisor_30 : decode cX8_commonDivisor 30 = .ok (.lload 6, 2) := by decide +kernel
theorem dX8_commonDivisor_32 : decode cX8_commonDivisor 32 = .ok (.lstore 4, 2) := by decide +kernel
theorem dX8_commonDivisor_34 : decode cX8_commonDivisor 34 = .ok (.lload 9, 2) := by decide +kernel
theorem dX8_commonDivisor_36 : decode cX8_commonDivisor 36 = .ok (.lstore 6, 2) := by decide +kernel
theorem dX8_commonDivisor_38 : decode cX8_commonDivisor 38 = .ok (.iinc 8 1, 3) := by decide +kernel
theorem dX8_commonDivisor_41 : decode cX8_commonDivisor 41 = .ok (.goto (-32), 3) := by decide +kernel
theorem dX8_commonDivisor_44 : decode cX8_commonDivisor 44 = .ok (.lload 4, 2) := by decide +kernel
theorem dX8_commonDivisor_46 : decode cX8_commonDivisor 46 = .ok (.lreturn, 1) := by decide +kernel
theorem dX8_tiresAsTold_0 : decode cX8_tiresAsTold 0 = .ok (.iconst 0, 1) := by decide +kernel
theorem dX8_tiresAsTold_1 : decode cX8_tiresAsTold 1 = .ok (.istore_n 2, 1) := by decide +kernel
theorem dX8_tiresAsTold_2 : decode cX8_tiresAsTold 2 = .ok (.iload_n 2, 1) := by decide +kernel
theorem dX8_tiresAsTold_3 : decode cX8_tiresAsTold 3 = .ok (.aload_n 0, 1) := by decide +kernel
theorem dX8_tiresAsTold_4 : decode cX8_tiresAsTold 4 = .ok (.getfield 37, 3) := by decide +kernel
theorem dX8_tiresAsTold_7 : decode cX8_tiresAsTold 7 = .ok (.if_icmp .ge 43, 3) := by decide +kernel
theorem dX8_tiresAsTold_10 : decode cX8_tiresAsTold 10 = .ok (.iload_n 2, 1) := by decide +kernel
theorem dX8_tiresAsTold_11 : decode cX8_tiresAsTold 11 = .ok (.ifCond .le 13, 3) := by decide +kernel
theorem dX8_tiresAsTold_14 : decode cX8_tiresAsTold 14 = .ok (.aload_n 0, 1) := by decide +kernel
theorem dX8_tiresAsTold_15 : decode cX8_tiresAsTold 15 = .ok (.getfield 16, 3) := by decide +kernel
theorem dX8_tiresAsTold_18 : decode cX8_tiresAsTold 18 = .ok (.iconst 1, 1) := by decide +kernel
theorem dX8_tiresAsTold_19 : decode cX8_tiresAsTold 19 = .ok (.iconst 0, 1) := by decide +kernel
theorem dX8_tiresAsTold_20 : decode cX8_tiresAsTold 20 = .ok (.invokevirtual 151, 3) := by decide +kernel
theorem dX8_tiresAsTold_23 : decode cX8_tiresAsTold 23 = .ok (.pop, 1) := by decide +kernel
theorem dX8_tiresAsTold_24 : decode cX8_tiresAsTold 24 = .ok (.aload_n 0, 1) := by decide +kernel
theorem dX8_tiresAsTold_25 : decode cX8_tiresAsTold 25 = .ok (.getfield 16, 3) := by decide +kernel
theorem dX8_tiresAsTold_28 : decode cX8_tiresAsTold 28 = .ok (.getfield 100, 3) := by decide +kernel
theorem dX8_tiresAsTold_31 : decode cX8_tiresAsTold 31 = .ok (.iload_n 1, 1) := by decide +kernel
theorem dX8_tiresAsTold_32 : decode cX8_tiresAsTold 32 = .ok (.iaload, 1) := by decide +kernel
theorem dX8_tiresAsTold_33 : decode cX8_tiresAsTold 33 = .ok (.aload_n 0, 1) := by decide +kernel
theorem dX8_tiresAsTold_34 : decode cX8_tiresAsTold 34 = .ok (.getfield 33, 3) := by decide +kernel
theorem dX8_tiresAsTold_37 : decode cX8_tiresAsTold 37 = .ok (.iload_n 2, 1) := by decide +kernel
theorem dX8_tiresAsTold_38 : decode cX8_tiresAsTold 38 = .ok (.iaload, 1) := by decide +kernel
theorem dX8_tiresAsTold_39 : decode cX8_tiresAsTold 39 = .ok (.if_icmp .eq 5, 3) := by decide +kernel
theorem dX8_tiresAsTold_42 : decode cX8_tiresAsTold 42 = .ok (.iconst 0, 1) := by decide +kernel
theorem dX8_tiresAsTold_43 : decode cX8_tiresAsTold 43 = .ok (.ireturn, 1) := by decide +kernel
theorem dX8_tiresAsTold_44 : decode cX8_tiresAsTold 44 = .ok (.iinc 2 1, 3) := by decide +kernel
theorem dX8_tiresAsTold_47 : decode cX8_tiresAsTold 47 = .ok (.goto (-45), 3) := by decide +kernel
theorem dX8_tiresAsTold_50 : decode cX8_tiresAsTold 50 = .ok (.iconst 1, 1) := by decide +kernel
theorem dX8_tiresAsTold_51 : decode cX8_tiresAsTold 51 = .ok (.ireturn, 1) := by decide +kernel
theorem dX8_nextSeed_0 : decode cX8_nextSeed 0 = .ok (.iload_n 0, 1) := by decide +kernel
theorem dX8_nextSeed_1 : decode cX8_nextSeed 1 = .ok (.ldc_w 269, 3) := by decide +kernel
theorem dX8_nextSeed_4 : decode cX8_nextSeed 4 = .ok (.imul, 1) := by decide +kernel
theorem dX8_nextSeed_5 : decode cX8_nextSeed 5 = .ok (.ldc_w 270, 3) := by decide +kernel
theorem dX8_nextSeed_8 : decode cX8_nextSeed 8 = .ok (.iadd, 1) := by decide +kernel
theorem dX8_nextSeed_9 : decode cX8_nextSeed 9 = .ok (.ireturn, 1) := by decide +kernel
theorem dX8_drawn_0 : decode cX8_drawn 0 = .ok (.iload_n 1, 1) := by decide +kernel
theorem dX8_drawn_1 : decode cX8_drawn 1 = .ok (.ifCond .gt 5, 3) := by decide +kernel
theorem dX8_drawn_4 : decode cX8_drawn 4 = .ok (.iconst 0, 1) := by decide +kernel
theorem dX8_drawn_5 : decode cX8_drawn 5 = .ok (.ireturn, 1) := by decide +kernel
theorem dX8_drawn_6 : decode cX8_drawn 6 = .ok (.iload_n 0, 1) := by decide +kernel
theorem dX8_drawn_7 : decode cX8_drawn 7 = .ok (.ldc 207, 2) := by decide +kernel
theorem dX8_drawn_9 : decode cX8_drawn 9 = .ok (.iand, 1) := by decide +kernel
theorem dX8_drawn_10 : decode cX8_drawn 10 = .ok (.sipush 256, 3) := by decide +kernel
theorem dX8_drawn_13 : decode cX8_drawn 13 = .ok (.idiv, 1) := by decide +kernel
theorem dX8_drawn_14 : decode cX8_drawn 14 = .ok (.iload_n 1, 1) := by decide +kernel
theorem dX8_drawn_15 : decode cX8_drawn 15 = .ok (.irem, 1) := by decide +kernel
theorem dX8_drawn_16 : decode cX8_drawn 16 = .ok (.ireturn, 1) := by decide +kernel
theorem dX9_init_0 : decode cX9_init 0 = .ok (.aload_n 0, 1) := by decide +kernel
theorem dX9_init_1 : decode cX9_init 1 = .ok (.invokespecial 1, 3) := by decide +kernel
theorem dX9_init_4 : decode cX9_init 4 = .ok (.aload_n 0, 1) := by decide +kernel
theorem dX9_init_5 : decode cX9_init 5 = .ok (.bipush 33, 2) := by decide +kernel
theorem dX9_init_7 : decode cX9_init 7 = .ok (.newarray .int, 2) := by decide +kernel
theorem dX9_init_9 : decode cX9_init 9 = .ok (.putfield 9, 3) := by decide +kernel
theorem dX9_init_12 : decode cX9_init 12 = .ok (.aload_n 0, 1) := by decide +kernel
theorem dX9_init_13 : decode cX9_init 13 = .ok (.bipush 33, 2) := by decide +kernel
theorem dX9_init_15 : decode cX9_init 15 = .ok (.newarray .int, 2) := by decide +kernel
theorem dX9_init_17 : decode cX9_init 17 = .ok (.putfield 13, 3) := by decide +kernel
theorem dX9_init_20 : decode cX9_init 20 = .ok (.aload_n 0, 1) := by decide +kernel
theorem dX9_init_21 : decode cX9_init 21 = .ok (.bipush 33, 2) := by decide +kernel
theorem dX9_init_23 : decode cX9_init 23 = .ok (.newarray .int, 2) := by decide +kernel
theorem dX9_init_25 : decode cX9_init 25 = .ok (.putfield 16, 3) := by decide +kernel
theorem dX9_init_28 : decode cX9_init 28 = .ok (.aload_n 0, 1) := by decide +kernel
theorem dX9_init_29 : decode cX9_init 29 = .ok (.bipush 33, 2) := by decide +kernel
theorem dX9_init_31 : decode cX9_init 31 = .ok (.newarray .int, 2) := by decide +kernel
theorem dX9_init_33 : decode cX9_init 33 = .ok (.putfield 19, 3) := by decide +kernel
theorem dX9_init_36 : decode cX9_init 36 = .ok (.aload_n 0, 1) := by decide +kernel
theorem dX9_init_37 : decode cX9_init 37 = .ok (.bipush 96, 2) := by decide +kernel
theorem dX9_init_39 : decode cX9_init 39 = .ok (.newarray .int, 2) := by decide +kernel
theorem dX9_init_41 : decode cX9_init 41 = .ok (.putfield 22, 3) := by decide +kernel
theorem dX9_init_44 : decode cX9_init 44 = .ok (.aload_n 0, 1) := by decide +kernel
theorem dX9_init_45 : decode cX9_init 45 = .ok (.bipush 16, 2) := by decide +kernel
theorem dX9_init_47 : decode cX9_init 47 = .ok (.newarray .int, 2) := by decide +kernel
theorem dX9_init_49 : decode cX9_init 49 = .ok (.putfield 25, 3) := by decide +kernel
theorem dX9_init_52 : decode cX9_init 52 = .ok (.aload_n 0, 1) := by decide +kernel
theorem dX9_init_53 : decode cX9_init 53 = .ok (.bipush 7, 2) := by decide +kernel
theorem dX9_init_55 : decode cX9_init 55 = .ok (.newarray .int, 2) := by decide +kernel
theorem dX9_init_57 : decode cX9_init 57 = .ok (.putfield 28, 3) := by decide +kernel
theorem dX9_init_60 : decode cX9_init 60 = .ok (.aload_n 0, 1) := by decide +kernel
theorem dX9_init_61 : decode cX9_init 61 = .ok (.iconst 3, 1) := by decide +kernel
theorem dX9_init_62 : decode cX9_init 62 = .ok (.newarray .int, 2) := by decide +kernel
theorem dX9_init_64 : decode cX9_init 64 = .ok (.putfield 31, 3) := by decide +kernel
theorem dX9_init_67 : decode cX9_init 67 = .ok (.return_, 1) := by decide +kernel
theorem dX9_isIn_0 : decode cX9_isIn 0 = .ok (.iload_n 0, 1) := by decide +kernel
theorem dX9_isIn_1 : decode cX9_isIn 1 = .ok (.iload_n 1, 1) := by decide +kernel
theorem dX9_isIn_2 : decode cX9_isIn 2 = .ok (.if_icmp .lt 12, 3) := by decide +kernel
theorem dX9_isIn_5 : decode cX9_isIn 5 = .ok (.iload_n 0, 1) := by decide +kernel
theorem dX9_isIn_6 : decode cX9_isIn 6 = .ok (.iload_n 2, 1) := by decide +kernel
theorem dX9_isIn_7 : decode cX9_isIn 7 = .ok (.if_icmp .gt 7, 3) := by decide +kernel
theorem dX9_isIn_10 : decode cX9_isIn 10 = .ok (.iconst 1, 1) := by decide +kernel
theorem dX9_isIn_11 : decode cX9_isIn 11 = .ok (.goto 4, 3) := by decide +kernel
theorem dX9_isIn_14 : decode cX9_isIn 14 = .ok (.iconst 0, 1) := by decide +kernel
theorem dX9_isIn_15 : decode cX9_isIn 15 = .ok (.ireturn, 1) := by decide +kernel
theorem dX9_least_0 : decode cX9_least 0 = .ok (.iload_n 0, 1) := by decide +kernel
theorem dX9_least_1 : decode cX9_least 1 = .ok (.iload_n 1, 1) := by decide +kernel
theorem dX9_least_2 : decode cX9_least 2 = .ok (.if_icmp .ge 7, 3) := by decide +kernel
theorem dX9_least_5 : decode cX9_least 5 = .ok (.iload_n 0, 1) := by decide +kernel
theorem dX9_least_6 : decode cX9_least 6 = .ok (.goto 4, 3) := by decide +kernel
theorem dX9_least_9 : decode cX9_least 9 = .ok (.iload_n 1, 1) := by decide +kernel
theorem dX9_least_10 : decode cX9_least 10 = .ok (.ireturn, 1) := by decide +kernel
theorem dX9_copies_0 : decode cX9_copies 0 = .ok (.iconst 0, 1) := by decide +kernel
theorem dX9_copies_1 : decode cX9_copies 1 = .ok (.istore_n 2, 1) := by decide +kernel
theorem dX9_copies_2 : decode cX9_copies 2 = .ok (.iload_n 2, 1) := by decide +kernel
theorem dX9_copies_3 : decode cX9_copies 3 = .ok (.bipush 33, 2) := by decide +kernel
theorem dX9_copies_5 : decode cX9_copies 5 = .ok (.if_icmp .ge 15, 3) := by decide +kernel
theorem dX9_copies_8 : decode cX9_copies 8 = .ok (.aload_n 1, 1) := by decide +kernel
theorem dX9_copies_9 : decode cX9_copies 9 = .ok (.iload_n 2, 1) := by decide +kernel
theorem dX9_copies_10 : decode cX9_copies 10 = .ok (.aload_n 0, 1) := by decide +kernel
theorem dX9_copies_11 : decode cX9_copies 11 = .ok (.iload_n 2, 1) := by decide +kernel
theorem dX9_copies_12 : decode cX9_copies 12 = .ok (.iaload, 1) := by decide +kernel
theorem dX9_copies_13 : decode cX9_copies 13 = .ok (.iastore, 1) := by decide +kernel
theorem dX9_copies_14 : decode cX9_copies 14 = .ok (.iinc 2 1, 3) := by decide +kernel
theorem dX9_copies_17 : decode cX9_copies 17 = .ok (.goto (-15), 3) := by decide +kernel
theorem dX9_copies_20 : decode cX9_copies 20 = .ok (.return_, 1) := by decide +kernel
theorem dX9_no_0 : decode cX9_no 0 = .ok (.aload_n 0, 1) := by decide +kernel
theorem dX9_no_1 : decode cX9_no 1 = .ok (.getfield 28, 3) := by decide +kernel
theorem dX9_no_4 : decode cX9_no 4 = .ok (.iload_n 1, 1) := by decide +kernel
theorem dX9_no_5 : decode cX9_no 5 = .ok (.ineg, 1) := by decide +kernel
theorem dX9_no_6 : decode cX9_no 6 = .ok (.dup2, 1) := by decide +kernel
theorem dX9_no_7 : decode cX9_no 7 = .ok (.iaload, 1) := by decide +kernel
theorem dX9_no_8 : decode cX9_no 8 = .ok (.iconst 1, 1) := by decide +kernel
theorem dX9_no_9 : decode cX9_no 9 = .ok (.iadd, 1) := by decide +kernel
theorem dX9_no_10 : decode cX9_no 10 = .ok (.iastore, 1) := by decide +kernel
theorem dX9_no_11 : decode cX9_no 11 = .ok (.iload_n 1, 1) := by decide +kernel
theorem dX9_no_12 : decode cX9_no 12 = .ok (.ireturn, 1) := by decide +kernel
theorem dX9_noWide_0 : decode cX9_noWide 0 = .ok (.ldc2_w 34, 3) := by decide +kernel
theorem dX9_noWide_3 : decode cX9_noWide 3 = .ok (.aload_n 0, 1) := by decide +kernel
theorem dX9_noWide_4 : decode cX9_noWide 4 = .ok (.iload_n 1, 1) := by decide +kernel
theorem dX9_noWide_5 : decode cX9_noWide 5 = .ok (.invokevirtual 36, 3) := by decide +kernel
theorem dX9_noWide_8 : decode cX9_noWide 8 = .ok (.i2l, 1) := by decide +kernel
theorem dX9_noWide_9 : decode cX9_noWide 9 = .ok (.lsub, 1) := by decide +kernel
theorem dX9_noWide_10 : decode cX9_noWide 10 = .ok (.lreturn, 1) := by decide +kernel
theorem dX9_of_0 : decode cX9_of 0 = .ok (.iconst 3, 1) := by decide +kernel
theorem dX9_of_1 : decode cX9_of 1 = .ok (.iconst 5, 1) := by decide +kernel
theorem dX9_of_2 : decode cX9_of 2 = .ok (.iload_n 0, 1) := by decide +kernel
theorem dX9_of_3 : decode cX9_of 3 = .ok (.imul, 1) := by decide +kernel
theorem dX9_of_4 : decode cX9_of 4 = .ok (.iadd, 1) := by decide +kernel
theorem dX9_of_5 : decode cX9_of 5 = .ok (.iload_n 1, 1) := by decide +kernel
theorem dX9_of_6 : decode cX9_of 6 = .ok (.iadd, 1) := by decide +kernel
theorem dX9_of_7 : decode cX9_of 7 = .ok (.ireturn, 1) := by decide +kernel
theorem dX9_isWorker_0 : decode cX9_isWorker 0 = .ok (.iload_n 1, 1) := by decide +kernel
theorem dX9_isWorker_1 : decode cX9_isWorker 1 = .ok (.iconst 0, 1) := by decide +kernel
theorem dX9_isWorker_2 : decode cX9_isWorker 2 = .ok (.aload_n 0, 1) := by decide +kernel
theorem dX9_isWorker_3 : decode cX9_isWorker 3 = .ok (.getfield 9, 3) := by decide +kernel
theorem dX9_isWorker_6 : decode cX9_isWorker 6 = .ok (.iconst 0, 1) := by decide +kernel
theorem dX9_isWorker_7 : decode cX9_isWorker 7 = .ok (.iaload, 1) := by decide +kernel
theorem dX9_isWorker_8 : decode cX9_isWorker 8 = .ok (.iconst 1, 1) := by decide +kernel
theorem dX9_isWorker_9 : decode cX9_isWorker 9 = .ok (.isub, 1) := by decide +kernel
theorem dX9_isWorker_10 : decode cX9_isWorker 10 = .ok (.invokestatic 40, 3) := by decide +kernel
theorem dX9_isWorker_13 : decode cX9_isWorker 13 = .ok (.ireturn, 1) := by decide +kernel
theorem dX9_isWeekday_0 : decode cX9_isWeekday 0 = .ok (.iload_n 0, 1) := by decide +kernel
theorem dX9_isWeekday_1 : decode cX9_isWeekday 1 = .ok (.iconst 0, 1) := by decide +kernel
theorem dX9_isWeekday_2 : decode cX9_isWeekday 2 = .ok (.bipush 6, 2) := by decide +kernel
theorem dX9_isWeekday_4 : decode cX9_isWeekday 4 = .ok (.invokestatic 40, 3) := by decide +kernel
theorem dX9_isWeekday_7 : decode cX9_isWeekday 7 = .ok (.ireturn, 1) := by decide +kernel
theorem dX9_has_0 : decode cX9_has 0 = .ok (.iload_n 0, 1) := by decide +kernel
theorem dX9_has_1 : decode cX9_has 1 = .ok (.iload_n 1, 1) := by decide +kernel
theorem dX9_has_2 : decode cX9_has 2 = .ok (.ishr, 1) := by decide +kernel
theorem dX9_has_3 : decode cX9_has 3 = .ok (.iconst 1, 1) := by decide +kernel
theorem dX9_has_4 : decode cX9_has 4 = .ok (.iand, 1) := by decide +kernel
theorem dX9_has_5 : decode cX9_has 5 = .ok (.iconst 1, 1) := by decide +kernel
theorem dX9_has_6 : decode cX9_has 6 = .ok (.if_icmp .ne 7, 3) := by decide +kernel
theorem dX9_has_9 : decode cX9_has 9 = .ok (.iconst 1, 1) := by decide +kernel
theorem dX9_has_10 : decode cX9_has 10 = .ok (.goto 4, 3) := by decide +kernel
theorem dX9_has_13 : decode cX9_has 13 = .ok (.iconst 0, 1) := by decide +kernel
theorem dX9_has_14 : decode cX9_has 14 = .ok (.ireturn, 1) := by decide +kernel
theorem dX9_bits_0 : decode cX9_bits 0 = .ok (.iconst 0, 1) := by decide +kernel
theorem dX9_bits_1 : decode cX9_bits 1 = .ok (.istore_n 1, 1) := by decide +kernel
theorem dX9_bits_2 : decode cX9_bits 2 = .ok (.iconst 0, 1) := by decide +kernel
theorem dX9_bits_3 : decode cX9_bits 3 = .ok (.istore_n 2, 1) := by decide +kernel
theorem dX9_bits_4 : decode cX9_bits 4 = .ok (.iload_n 2, 1) := by decide +kernel
theorem dX9_bits_5 : decode cX9_bits 5 = .ok (.bipush 7, 2) := by decide +kernel
theorem dX9_bits_7 : decode cX9_bits 7 = .ok (.if_icmp .ge 17, 3) := by decide +kernel
theorem dX9_bits_10 : decode cX9_bits 10 = .ok (.iload_n 1, 1) := by decide +kernel
theorem dX9_bits_11 : decode cX9_bits 11 = .ok (.iload_n 0, 1) := by decide +kernel
theorem dX9_bits_12 : decode cX9_bits 12 = .ok (.iload_n 2, 1) := by decide +kernel
theorem dX9_bits_13 : decode cX9_bits 13 = .ok (.ishr, 1) := by decide +kernel
theorem dX9_bits_14 : decode cX9_bits 14 = .ok (.iconst 1, 1) := by decide +kernel
theorem dX9_bits_15 : decode cX9_bits 15 = .ok (.iand, 1) := by decide +kernel
theorem dX9_bits_16 : decode cX9_bits 16 = .ok (.iadd, 1) := by decide +kernel
theorem dX9_bits_17 : decode cX9_bits 17 = .ok (.istore_n 1, 1) := by decide +kernel
theorem dX9_bits_18 : decode cX9_bits 18 = .ok (.iinc 2 1, 3) := by decide +kernel
theorem dX9_bits_21 : decode cX9_bits 21 = .ok (.goto (-17), 3) := by decide +kernel
theorem dX9_bits_24 : decode cX9_bits 24 = .ok (.iload_n 1, 1) := by decide +kernel
theorem dX9_bits_25 : decode cX9_bits 25 = .ok (.ireturn, 1) := by decide +kernel
theorem dX9_paidBehind_0 : decode cX9_paidBehind 0 = .ok (.iload_n 1, 1) := by decide +kernel
theorem dX9_paidBehind_1 : decode cX9_paidBehind 1 = .ok (.iconst 3, 1) := by decide +kernel
theorem dX9_paidBehind_2 : decode cX9_paidBehind 2 = .ok (.idiv, 1) := by decide +kernel
theorem dX9_paidBehind_3 : decode cX9_paidBehind 3 = .ok (.iconst 1, 1) := by decide +kernel
theorem dX9_paidBehind_4 : decode cX9_paidBehind 4 = .ok (.iadd, 1) := by decide +kernel
theorem dX9_paidBehind_5 : decode cX9_paidBehind 5 = .ok (.istore_n 2, 1) := by decide +kernel
theorem dX9_paidBehind_6 : decode cX9_paidBehind 6 = .ok (.iload_n 0, 1) := by decide +kernel
theorem dX9_paidBehind_7 : decode cX9_paidBehind 7 = .ok (.tableswitch 37 2 5 #[29, 37, 33, 35], 29) := by decide +kernel
theorem dX9_paidBehind_36 : decode cX9_paidBehind 36 = .ok (.iload_n 2, 1) := by decide +kernel
theorem dX9_paidBehind_37 : decode cX9_paidBehind 37 = .ok (.iconst 1, 1) := by decide +kernel
theorem dX9_paidBehind_38 : decode cX9_paidBehind 38 = .ok (.iadd, 1) := by decide +kernel
theorem dX9_paidBehind_39 : decode cX9_paidBehind 39 = .ok (.ireturn, 1) := by decide +kernel
theorem dX9_paidBehind_40 : decode cX9_paidBehind 40 = .ok (.iconst 0, 1) := by decide +kernel
theorem dX9_paidBehind_41 : decode cX9_paidBehind 41 = .ok (.ireturn, 1) := by decide +kernel
theorem dX9_paidBehind_42 : decode cX9_paidBehind 42 = .ok (.iconst 1, 1) := by decide +kernel
theorem dX9_paidBehind_43 : decode cX9_paidBehind 43 = .ok (.ireturn, 1) := by decide +kernel
theorem dX9_paidBehind_44 : decode cX9_paidBehind 44 = .ok (.iload_n 2, 1) := by decide +kernel
theorem dX9_paidBehind_45 : decode cX9_paidBehind 45 = .ok (.ireturn, 1) := by decide +kernel
theorem dX9_wanted_0 : decode cX9_wanted 0 = .ok (.iload_n 1, 1) := by decide +kernel
theorem dX9_wanted_1 : decode cX9_wanted 1 = .ok (.iload_n 2, 1) := by decide +kernel
theorem dX9_wanted_2 : decode cX9_wanted 2 = .ok (.if_icmp .ne 7, 3) := by decide +kernel
theorem dX9_wanted_5 : decode cX9_wanted 5 = .ok (.iconst 0, 1) := by decide +kernel
theorem dX9_wanted_6 : decode cX9_wanted 6 = .ok (.goto 20, 3) := by decide +kernel
theorem dX9_wanted_9 : decode cX9_wanted 9 = .ok (.aload_n 0, 1) := by decide +kernel
theorem dX9_wanted_10 : decode cX9_wanted 10 = .ok (.iload_n 2, 1) := by decide +kernel
theorem dX9_wanted_11 : decode cX9_wanted 11 = .ok (.iconst 2, 1) := by decide +kernel
theorem dX9_wanted_12 : decode cX9_wanted 12 = .ok (.invokestatic 44, 3) := by decide +kernel
theorem dX9_wanted_15 : decode cX9_wanted 15 = .ok (.iaload, 1) := by decide +kernel
theorem dX9_wanted_16 : decode cX9_wanted 16 = .ok (.aload_n 0, 1) := by decide +kernel
theorem dX9_wanted_17 : decode cX9_wanted 17 = .ok (.iload_n 1, 1) := by decide +kernel
theorem dX9_wanted_18 : decode cX9_wanted 18 = .ok (.iconst 2, 1) := by decide +kernel
theorem dX9_wanted_19 : decode cX9_wanted 19 = .ok (.invokestatic 44, 3) := by decide +kernel
theorem dX9_wanted_22 : decode cX9_wanted 22 = .ok (.iaload, 1) := by decide +kernel
theorem dX9_wanted_23 : decode cX9_wanted 23 = .ok (.iconst (-1), 1) := by decide +kernel
theorem dX9_wanted_24 : decode cX9_wanted 24 = .ok (.ixor, 1) := by decide +kernel
theorem dX9_wanted_25 : decode cX9_wanted 25 = .ok (.iand, 1) := by decide +kernel
theorem dX9_wanted_26 : decode cX9_wanted 26 = .ok (.ireturn, 1) := by decide +kernel
theorem dX9_roundFrom_0 : decode cX9_roundFrom 0 = .ok (.iconst 1, 1) := by decide +kernel
theorem dX9_roundFrom_1 : decode cX9_roundFrom 1 = .ok (.istore_n 3, 1) := by decide +kernel
theorem dX9_roundFrom_2 : decode cX9_roundFrom 2 = .ok (.iload_n 3, 1) := by decide +kernel
theorem dX9_roundFrom_3 : decode cX9_roundFrom 3 = .ok (.aload_n 0, 1) := by decide +kernel
theorem dX9_roundFrom_4 : decode cX9_roundFrom 4 = .ok (.iconst 0, 1) := by decide +kernel
theorem dX9_roundFrom_5 : decode cX9_roundFrom 5 = .ok (.iaload, 1) := by decide +kernel
theorem dX9_roundFrom_6 : decode cX9_roundFrom 6 = .ok (.if_icmp .ge 39, 3) := by decide +kernel
theorem dX9_roundFrom_9 : decode cX9_roundFrom 9 = .ok (.iload_n 1, 1) := by decide +kernel
theorem dX9_roundFrom_10 : decode cX9_roundFrom 10 = .ok (.iload_n 2, 1) := by decide +kernel
theorem dX9_roundFrom_11 : decode cX9_roundFrom 11 = .ok (.iload_n 3, 1) := by decide +kernel
theorem dX9_roundFrom_12 : decode cX9_roundFrom 12 = .ok (.imul, 1) := by decide +kernel
theorem dX9_roundFrom_13 : decode cX9_roundFrom 13 = .ok (.iadd, 1) := by decide +kernel
theorem dX9_roundFrom_14 : decode cX9_roundFrom 14 = .ok (.aload_n 0, 1) := by decide +kernel
theorem dX9_roundFrom_15 : decode cX9_roundFrom 15 = .ok (.iconst 0, 1) := by decide +kernel
theorem dX9_roundFrom_16 : decode cX9_roundFrom 16 = .ok (.iaload, 1) := by decide +kernel
theorem dX9_roundFrom_17 : decode cX9_roundFrom 17 = .ok (.iload_n 3, 1) := by decide +kernel
theorem dX9_roundFrom_18 : decode cX9_roundFrom 18 = .ok (.imul, 1) := by decide +kernel
theorem dX9_roundFrom_19 : decode cX9_roundFrom 19 = .ok (.iadd, 1) := by decide +kernel
theorem dX9_roundFrom_20 : decode cX9_roundFrom 20 = .ok (.aload_n 0, 1) := by decide +kernel
theorem dX9_roundFrom_21 : decode cX9_roundFrom 21 = .ok (.iconst 0, 1) := by decide +kernel
theorem dX9_roundFrom_22 : decode cX9_roundFrom 22 = .ok (.iaload, 1) := by decide +kernel
theorem dX9_roundFrom_23 : decode cX9_roundFrom 23 = .ok (.irem, 1) := by decide +kernel
theorem dX9_roundFrom_24 : decode cX9_roundFrom 24 = .ok (.istore 4, 2) := by decide +kernel
theorem dX9_roundFrom_26 : decode cX9_roundFrom 26 = .ok (.aload_n 0, 1) := by decide +kernel
theorem dX9_roundFrom_27 : decode cX9_roundFrom 27 = .ok (.iload_n 1, 1) := by decide +kernel
theorem dX9_roundFrom_28 : decode cX9_roundFrom 28 = .ok (.iload 4, 2) := by decide +kernel
theorem dX9_roundFrom_30 : decode cX9_roundFrom 30 = .ok (.invokestatic 48, 3) := by decide +kernel
theorem dX9_roundFrom_33 : decode cX9_roundFrom 33 = .ok (.ifCond .eq 6, 3) := by decide +kernel
theorem dX9_roundFrom_36 : decode cX9_roundFrom 36 = .ok (.iload 4, 2) := by decide +kernel
theorem dX9_roundFrom_38 : decode cX9_roundFrom 38 = .ok (.ireturn, 1) := by decide +kernel
theorem dX9_roundFrom_39 : decode cX9_roundFrom 39 = .ok (.iinc 3 1, 3) := by decide +kernel
theorem dX9_roundFrom_42 : decode cX9_roundFrom 42 = .ok (.goto (-40), 3) := by decide +kernel
theorem dX9_roundFrom_45 : decode cX9_roundFrom 45 = .ok (.bipush (-9), 2) := by decide +kernel
theorem dX9_roundFrom_47 : decode cX9_roundFrom 47 = .ok (.ireturn, 1) := by decide +kernel
theorem dX9_richestFrom_0 : decode cX9_richestFrom 0 = .ok (.bipush (-9), 2) := by decide +kernel
theorem dX9_richestFrom_2 : decode cX9_richestFrom 2 = .ok (.istore_n 2, 1) := by decide +kernel
theorem dX9_richestFrom_3 : decode cX9_richestFrom 3 = .ok (.iconst 0, 1) := by decide +kernel
theorem dX9_richestFrom_4 : decode cX9_richestFrom 4 = .ok (.istore_n 3, 1) := by decide +kernel
theorem dX9_richestFrom_5 : decode cX9_richestFrom 5 = .ok (.iload_n 3, 1) := by decide +kernel
theorem dX9_richestFrom_6 : decode cX9_richestFrom 6 = .ok (.aload_n 0, 1) := by decide +kernel
theorem dX9_richestFrom_7 : decode cX9_richestFrom 7 = .ok (.iconst 0, 1) := by decide +kernel
theorem dX9_richestFrom_8 : decode cX9_richestFrom 8 = .ok (.iaload, 1) := by decide +kernel
theorem dX9_richestFrom_9 : decode cX9_richestFrom 9 = .ok (.if_icmp .ge 47, 3) := by decide +kernel
theorem dX9_richestFrom_12 : decode cX9_richestFrom 12 = .ok (.aload_n 0, 1) := by decide +kernel
theorem dX9_richestFrom_13 : decode cX9_richestFrom 13 = .ok (.iload_n 1, 1) := by decide +kernel
theorem dX9_richestFrom_14 : decode cX9_richestFrom 14 = .ok (.iload_n 3, 1) := by decide +kernel
theorem dX9_richestFrom_15 : decode cX9_richestFrom 15 = .ok (.invokestatic 48, 3) := by decide +kernel
theorem dX9_richestFrom_18 : decode cX9_richestFrom 18 = .ok (.ifCond .eq 32, 3) := by decide +kernel
theorem dX9_richestFrom_21 : decode cX9_richestFrom 21 = .ok (.iload_n 2, 1) := by decide +kernel
theorem dX9_richestFrom_22 : decode cX9_richestFrom 22 = .ok (.ifCond .lt 26, 3) := by decide +kernel
theorem dX9_richestFrom_25 : decode cX9_richestFrom 25 = .ok (.aload_n 0, 1) := by decide +kernel
theorem dX9_richestFrom_26 : decode cX9_richestFrom 26 = .ok (.iload_n 3, 1) := by decide +kernel
theorem dX9_richestFrom_27 : decode cX9_richestFrom 27 = .ok (.iconst 2, 1) := by decide +kernel
theorem dX9_richestFrom_28 : decode cX9_richestFrom 28 = .ok (.invokestatic 44, 3) := by decide +kernel
theorem dX9_richestFrom_31 : decode cX9_richestFrom 31 = .ok (.iaload, 1) := by decide +kernel
theorem dX9_richestFrom_32 : decode cX9_richestFrom 32 = .ok (.invokestatic 52, 3) := by decide +kernel
theorem dX9_richestFrom_35 : decode cX9_richestFrom 35 = .ok (.aload_n 0, 1) := by decide +kernel
theorem dX9_richestFrom_36 : decode cX9_richestFrom 36 = .ok (.iload_n 2, 1) := by decide +kernel
theorem dX9_richestFrom_37 : decode cX9_richestFrom 37 = .ok (.iconst 2, 1) := by decide +kernel
theorem dX9_richestFrom_38 : decode cX9_richestFrom 38 = .ok (.invokestatic 44, 3) := by decide +kernel
theorem dX9_richestFrom_41 : decode cX9_richestFrom 41 = .ok (.iaload, 1) := by decide +kernel
theorem dX9_richestFrom_42 : decode cX9_richestFrom 42 = .ok (.invokestatic 52, 3) := by decide +kernel
theorem dX9_richestFrom_45 : decode cX9_richestFrom 45 = .ok (.if_icmp .le 5, 3) := by decide +kernel
theorem dX9_richestFrom_48 : decode cX9_richestFrom 48 = .ok (.iload_n 3, 1) := by decide +kernel
theorem dX9_richestFrom_49 : decode cX9_richestFrom 49 = .ok (.istore_n 2, 1) := by decide +kernel
theorem dX9_richestFrom_50 : decode cX9_richestFrom 50 = .ok (.iinc 3 1, 3) := by decide +kernel
theorem dX9_richestFrom_53 : decode cX9_richestFrom 53 = .ok (.goto (-48), 3) := by decide +kernel
theorem dX9_richestFrom_56 : decode cX9_richestFrom 56 = .ok (.iload_n 2, 1) := by decide +kernel
theorem dX9_richestFrom_57 : decode cX9_richestFrom 57 = .ok (.ireturn, 1) := by decide +kernel
theorem dX9_leastFrom_0 : decode cX9_leastFrom 0 = .ok (.iconst 0, 1) := by decide +kernel
theorem dX9_leastFrom_1 : decode cX9_leastFrom 1 = .ok (.istore_n 2, 1) := by decide +kernel
theorem dX9_leastFrom_2 : decode cX9_leastFrom 2 = .ok (.iload_n 2, 1) := by decide +kernel
theorem dX9_leastFrom_3 : decode cX9_leastFrom 3 = .ok (.aload_n 0, 1) := by decide +kernel
theorem dX9_leastFrom_4 : decode cX9_leastFrom 4 = .ok (.iconst 0, 1) := by decide +kernel
theorem dX9_leastFrom_5 : decode cX9_leastFrom 5 = .ok (.iaload, 1) := by decide +kernel
theorem dX9_leastFrom_6 : decode cX9_leastFrom 6 = .ok (.if_icmp .ge 20, 3) := by decide +kernel
theorem dX9_leastFrom_9 : decode cX9_leastFrom 9 = .ok (.aload_n 0, 1) := by decide +kernel
theorem dX9_leastFrom_10 : decode cX9_leastFrom 10 = .ok (.iload_n 1, 1) := by decide +kernel
theorem dX9_leastFrom_11 : decode cX9_leastFrom 11 = .ok (.iload_n 2, 1) := by decide +kernel
theorem dX9_leastFrom_12 : decode cX9_leastFrom 12 = .ok (.invokestatic 48, 3) := by decide +kernel
theorem dX9_leastFrom_15 : decode cX9_leastFrom 15 = .ok (.ifCond .eq 5, 3) := by decide +kernel
theorem dX9_leastFrom_18 : decode cX9_leastFrom 18 = .ok (.iload_n 2, 1) := by decide +kernel
theorem dX9_leastFrom_19 : decode cX9_leastFrom 19 = .ok (.ireturn, 1) := by decide +kernel
theorem dX9_leastFrom_20 : decode cX9_leastFrom 20 = .ok (.iinc 2 1, 3) := by decide +kernel
theorem dX9_leastFrom_23 : decode cX9_leastFrom 23 = .ok (.goto (-21), 3) := by decide +kernel
theorem dX9_leastFrom_26 : decode cX9_leastFrom 26 = .ok (.bipush (-9), 2) := by decide +kernel
theorem dX9_leastFrom_28 : decode cX9_leastFrom 28 = .ok (.ireturn, 1) := by decide +kernel
theorem dX9_fromWhom_0 : decode cX9_fromWhom 0 = .ok (.aload_n 0, 1) := by decide +kernel
theorem dX9_fromWhom_1 : decode cX9_fromWhom 1 = .ok (.iload_n 1, 1) := by decide +kernel
theorem dX9_fromWhom_2 : decode cX9_fromWhom 2 = .ok (.iconst 0, 1) := by decide +kernel
theorem dX9_fromWhom_3 : decode cX9_fromWhom 3 = .ok (.invokestatic 44, 3) := by decide +kernel
theorem dX9_fromWhom_6 : decode cX9_fromWhom 6 = .ok (.iaload, 1) := by decide +kernel
theorem dX9_fromWhom_7 : decode cX9_fromWhom 7 = .ok (.tableswitch 52 1 5 #[33, 39, 33, 39, 46], 33) := by decide +kernel
theorem dX9_fromWhom_40 : decode cX9_fromWhom 40 = .ok (.aload_n 0, 1) := by decide +kernel
theorem dX9_fromWhom_41 : decode cX9_fromWhom 41 = .ok (.iload_n 1, 1) := by decide +kernel
theorem dX9_fromWhom_42 : decode cX9_fromWhom 42 = .ok (.invokestatic 55, 3) := by decide +kernel
theorem dX9_fromWhom_45 : decode cX9_fromWhom 45 = .ok (.ireturn, 1) := by decide +kernel
theorem dX9_fromWhom_46 : decode cX9_fromWhom 46 = .ok (.aload_n 0, 1) := by decide +kernel
theorem dX9_fromWhom_47 : decode cX9_fromWhom 47 = .ok (.iload_n 1, 1) := by decide +kernel
theorem dX9_fromWhom_48 : decode cX9_fromWhom 48 = .ok (.iconst (-1), 1) := by decide +kernel
theorem dX9_fromWhom_49 : decode cX9_fromWhom 49 = .ok (.invokestatic 59, 3) := by decide +kernel
theorem dX9_fromWhom_52 : decode cX9_fromWhom 52 = .ok (.ireturn, 1) := by decide +kernel
theorem dX9_fromWhom_53 : decode cX9_fromWhom 53 = .ok (.aload_n 0, 1) := by decide +kernel
theorem dX9_fromWhom_54 : decode cX9_fromWhom 54 = .ok (.iload_n 1, 1) := by decide +kernel
theorem dX9_fromWhom_55 : decode cX9_fromWhom 55 = .ok (.invokestatic 62, 3) := by decide +kernel
theorem dX9_fromWhom_58 : decode cX9_fromWhom 58 = .ok (.ireturn, 1) := by decide +kernel
theorem dX9_fromWhom_59 : decode cX9_fromWhom 59 = .ok (.aload_n 0, 1) := by decide +kernel
theorem dX9_fromWhom_60 : decode cX9_fromWhom 60 = .ok (.iload_n 1, 1) := by decide +kernel
theorem dX9_fromWhom_61 : decode cX9_fromWhom 61 = .ok (.iconst 1, 1) := by decide +kernel
theorem dX9_fromWhom_62 : decode cX9_fromWhom 62 = .ok (.invokestatic 59, 3) := by decide +kernel
theorem dX9_fromWhom_65 : decode cX9_fromWhom 65 = .ok (.ireturn, 1) := by decide +kernel
theorem dX9_whichOf_0 : decode cX9_whichOf 0 = .ok (.aload_n 0, 1) := by decide +kernel
theorem dX9_whichOf_1 : decode cX9_whichOf 1 = .ok (.iload_n 1, 1) := by decide +kernel
theorem dX9_whichOf_2 : decode cX9_whichOf 2 = .ok (.iconst 0, 1) := by decide +kernel
theorem dX9_whichOf_3 : decode cX9_whichOf 3 = .ok (.invokestatic 44, 3) := by decide +kernel
theorem dX9_whichOf_6 : decode cX9_whichOf 6 = .ok (.iaload, 1) := by decide +kernel
theorem dX9_whichOf_7 : decode cX9_whichOf 7 = .ok (.iconst 3, 1) := by decide +kernel
theorem dX9_whichOf_8 : decode cX9_whichOf 8 = .ok (.if_icmp .eq 14, 3) := by decide +kernel
theorem dX9_whichOf_11 : decode cX9_whichOf 11 = .ok (.aload_n 0, 1) := by decide +kernel
theorem dX9_whichOf_12 : decode cX9_whichOf 12 = .ok (.iload_n 1, 1) := by decide +kernel
theorem dX9_whichOf_13 : decode cX9_whichOf 13 = .ok (.iconst 0, 1) := by decide +kernel
theorem dX9_whichOf_14 : decode cX9_whichOf 14 = .ok (.invokestatic 44, 3) := by decide +kernel
theorem dX9_whichOf_17 : decode cX9_whichOf 17 = .ok (.iaload, 1) := by decide +kernel
theorem dX9_whichOf_18 : decode cX9_whichOf 18 = .ok (.iconst 5, 1) := by decide +kernel
theorem dX9_whichOf_19 : decode cX9_whichOf 19 = .ok (.if_icmp .ne 7, 3) := by decide +kernel
theorem dX9_whichOf_22 : decode cX9_whichOf 22 = .ok (.iconst 1, 1) := by decide +kernel
theorem dX9_whichOf_23 : decode cX9_whichOf 23 = .ok (.goto 4, 3) := by decide +kernel
theorem dX9_whichOf_26 : decode cX9_whichOf 26 = .ok (.iconst 0, 1) := by decide +kernel
theorem dX9_whichOf_27 : decode cX9_whichOf 27 = .ok (.istore_n 3, 1) := by decide +kernel
theorem dX9_whichOf_28 : decode cX9_whichOf 28 = .ok (.aload_n 0, 1) := by decide +kernel
theorem dX9_whichOf_29 : decode cX9_whichOf 29 = .ok (.iload_n 1, 1) := by decide +kernel
theorem dX9_whichOf_30 : decode cX9_whichOf 30 = .ok (.iload_n 2, 1) := by decide +kernel
theorem dX9_whichOf_31 : decode cX9_whichOf 31 = .ok (.invokestatic 48, 3) := by decide +kernel
theorem dX9_whichOf_34 : decode cX9_whichOf 34 = .ok (.istore 4, 2) := by decide +kernel
theorem dX9_whichOf_36 : decode cX9_whichOf 36 = .ok (.bipush (-9), 2) := by decide +kernel
theorem dX9_whichOf_38 : decode cX9_whichOf 38 = .ok (.istore 5, 2) := by decide +kernel
theorem dX9_whichOf_40 : decode cX9_whichOf 40 = .ok (.iconst 0, 1) := by decide +kernel
theorem dX9_whichOf_41 : decode cX9_whichOf 41 = .ok (.istore 6, 2) := by decide +kernel
theorem dX9_whichOf_43 : decode cX9_whichOf 43 = .ok (.iload 6, 2) := by decide +kernel
theorem dX9_whichOf_45 : decode cX9_whichOf 45 = .ok (.bipush 7, 2) := by decide +kernel
theorem dX9_whichOf_47 : decode cX9_whichOf 47 = .ok (.if_icmp .ge 32, 3) := by decide +kernel
theorem dX9_whichOf_50 : decode cX9_whichOf 50 = .ok (.iload 4, 2) := by decide +kernel
theorem dX9_whichOf_52 : decode cX9_whichOf 52 = .ok (.iload 6, 2) := by decide +kernel
theorem dX9_whichOf_54 : decode cX9_whichOf 54 = .ok (.invokestatic 65, 3) := by decide +kernel
theorem dX9_whichOf_57 : decode cX9_whichOf 57 = .ok (.ifCond .eq 16, 3) := by decide +kernel
theorem dX9_whichOf_60 : decode cX9_whichOf 60 = .ok (.iload 5, 2) := by decide +kernel
theorem dX9_whichOf_62 : decode cX9_whichOf 62 = .ok (.ifCond .lt 7, 3) := by decide +kernel
theorem dX9_whichOf_65 : decode cX9_whichOf 65 = .ok (.iload_n 3, 1) := by decide +kernel
theorem dX9_whichOf_66 : decode cX9_whichOf 66 = .ok (.ifCond .eq 7, 3) := by decide +kernel
theorem dX9_whichOf_69 : decode cX9_whichOf 69 = .ok (.iload 6, 2) := by decide +kernel
theorem dX9_whichOf_71 : decode cX9_whichOf 71 = .ok (.istore 5, 2) := by decide +kernel
theorem dX9_whichOf_73 : decode cX9_whichOf 73 = .ok (.iinc 6 1, 3) := by decide +kernel
theorem dX9_whichOf_76 : decode cX9_whichOf 76 = .ok (.goto (-33), 3) := by decide +kernel
theorem dX9_whichOf_79 : decode cX9_whichOf 79 = .ok (.iload 5, 2) := by decide +kernel
theorem dX9_whichOf_81 : decode cX9_whichOf 81 = .ok (.ireturn, 1) := by decide +kernel
theorem dX9_movesDay_0 : decode cX9_movesDay 0 = .ok (.aload_n 0, 1) := by decide +kernel
theorem dX9_movesDay_1 : decode cX9_movesDay 1 = .ok (.iload_n 1, 1) := by decide +kernel
theorem dX9_movesDay_2 : decode cX9_movesDay 2 = .ok (.iconst 2, 1) := by decide +kernel
theorem dX9_movesDay_3 : decode cX9_movesDay 3 = .ok (.invokestatic 44, 3) := by decide +kernel
theorem dX9_movesDay_6 : decode cX9_movesDay 6 = .ok (.dup2, 1) := by decide +kernel
theorem dX9_movesDay_7 : decode cX9_movesDay 7 = .ok (.iaload, 1) := by decide +kernel
theorem dX9_movesDay_8 : decode cX9_movesDay 8 = .ok (.iconst 1, 1) := by decide +kernel
theorem dX9_movesDay_9 : decode cX9_movesDay 9 = .ok (.iload_n 3, 1) := by decide +kernel
theorem dX9_movesDay_10 : decode cX9_movesDay 10 = .ok (.ishl, 1) := by decide +kernel
theorem dX9_movesDay_11 : decode cX9_movesDay 11 = .ok (.iconst (-1), 1) := by decide +kernel
theorem dX9_movesDay_12 : decode cX9_movesDay 12 = .ok (.ixor, 1) := by decide +kernel
theorem dX9_movesDay_13 : decode cX9_movesDay 13 = .ok (.iand, 1) := by decide +kernel
theorem dX9_movesDay_14 : decode cX9_movesDay 14 = .ok (.iastore, 1) := by decide +kernel
theorem dX9_movesDay_15 : decode cX9_movesDay 15 = .ok (.aload_n 0, 1) := by decide +kernel
theorem dX9_movesDay_16 : decode cX9_movesDay 16 = .ok (.iload_n 2, 1) := by decide +kernel
theorem dX9_movesDay_17 : decode cX9_movesDay 17 = .ok (.iconst 2, 1) := by decide +kernel
theorem dX9_movesDay_18 : decode cX9_movesDay 18 = .ok (.invokestatic 44, 3) := by decide +kernel
theorem dX9_movesDay_21 : decode cX9_movesDay 21 = .ok (.dup2, 1) := by decide +kernel
theorem dX9_movesDay_22 : decode cX9_movesDay 22 = .ok (.iaload, 1) := by decide +kernel
theorem dX9_movesDay_23 : decode cX9_movesDay 23 = .ok (.iconst 1, 1) := by decide +kernel
theorem dX9_movesDay_24 : decode cX9_movesDay 24 = .ok (.iload_n 3, 1) := by decide +kernel
theorem dX9_movesDay_25 : decode cX9_movesDay 25 = .ok (.ishl, 1) := by decide +kernel
theorem dX9_movesDay_26 : decode cX9_movesDay 26 = .ok (.ior, 1) := by decide +kernel
theorem dX9_movesDay_27 : decode cX9_movesDay 27 = .ok (.iastore, 1) := by decide +kernel
theorem dX9_movesDay_28 : decode cX9_movesDay 28 = .ok (.return_, 1) := by decide +kernel
theorem dX9_isPaid_0 : decode cX9_isPaid 0 = .ok (.aload_n 0, 1) := by decide +kernel
theorem dX9_isPaid_1 : decode cX9_isPaid 1 = .ok (.iload_n 1, 1) := by decide +kernel
theorem dX9_isPaid_2 : decode cX9_isPaid 2 = .ok (.invokestatic 69, 3) := by decide +kernel
theorem dX9_isPaid_5 : decode cX9_isPaid 5 = .ok (.istore_n 2, 1) := by decide +kernel
theorem dX9_isPaid_6 : decode cX9_isPaid 6 = .ok (.iload_n 2, 1) := by decide +kernel
theorem dX9_isPaid_7 : decode cX9_isPaid 7 = .ok (.ifCond .ge 4, 3) := by decide +kernel
theorem dX9_isPaid_10 : decode cX9_isPaid 10 = .ok (.return_, 1) := by decide +kernel
theorem dX9_isPaid_11 : decode cX9_isPaid 11 = .ok (.aload_n 0, 1) := by decide +kernel
theorem dX9_isPaid_12 : decode cX9_isPaid 12 = .ok (.iload_n 2, 1) := by decide +kernel
theorem dX9_isPaid_13 : decode cX9_isPaid 13 = .ok (.iload_n 1, 1) := by decide +kernel
theorem dX9_isPaid_14 : decode cX9_isPaid 14 = .ok (.aload_n 0, 1) := by decide +kernel
theorem dX9_isPaid_15 : decode cX9_isPaid 15 = .ok (.iload_n 1, 1) := by decide +kernel
theorem dX9_isPaid_16 : decode cX9_isPaid 16 = .ok (.iload_n 2, 1) := by decide +kernel
theorem dX9_isPaid_17 : decode cX9_isPaid 17 = .ok (.invokestatic 72, 3) := by decide +kernel
theorem dX9_isPaid_20 : decode cX9_isPaid 20 = .ok (.invokestatic 75, 3) := by decide +kernel
theorem dX9_isPaid_23 : decode cX9_isPaid 23 = .ok (.aload_n 0, 1) := by decide +kernel
theorem dX9_isPaid_24 : decode cX9_isPaid 24 = .ok (.iconst 2, 1) := by decide +kernel
theorem dX9_isPaid_25 : decode cX9_isPaid 25 = .ok (.sipush 9999, 3) := by decide +kernel
theorem dX9_isPaid_28 : decode cX9_isPaid 28 = .ok (.aload_n 0, 1) := by decide +kernel
theorem dX9_isPaid_29 : decode cX9_isPaid 29 = .ok (.iconst 2, 1) := by decide +kernel
theorem dX9_isPaid_30 : decode cX9_isPaid 30 = .ok (.iaload, 1) := by decide +kernel
theorem dX9_isPaid_31 : decode cX9_isPaid 31 = .ok (.iconst 1, 1) := by decide +kernel
theorem dX9_isPaid_32 : decode cX9_isPaid 32 = .ok (.iadd, 1) := by decide +kernel
theorem dX9_isPaid_33 : decode cX9_isPaid 33 = .ok (.invokestatic 79, 3) := by decide +kernel
theorem dX9_isPaid_36 : decode cX9_isPaid 36 = .ok (.iastore, 1) := by decide +kernel
theorem dX9_isPaid_37 : decode cX9_isPaid 37 = .ok (.aload_n 0, 1) := by decide +kernel
theorem dX9_isPaid_38 : decode cX9_isPaid 38 = .ok (.iload_n 1, 1) := by decide +kernel
theorem dX9_isPaid_39 : decode cX9_isPaid 39 = .ok (.iconst 4, 1) := by decide +kernel
theorem dX9_isPaid_40 : decode cX9_isPaid 40 = .ok (.invokestatic 44, 3) := by decide +kernel
theorem dX9_isPaid_43 : decode cX9_isPaid 43 = .ok (.iconst 0, 1) := by decide +kernel
theorem dX9_isPaid_44 : decode cX9_isPaid 44 = .ok (.iastore, 1) := by decide +kernel
theorem dX9_isPaid_45 : decode cX9_isPaid 45 = .ok (.return_, 1) := by decide +kernel
theorem dX9_day_0 : decode cX9_day 0 = .ok (.aload_n 0, 1) := by decide +kernel
theorem dX9_day_1 : decode cX9_day 1 = .ok (.iconst 1, 1) := by decide +kernel
theorem dX9_day_2 : decode cX9_day 2 = .ok (.dup2, 1) := by decide +kernel
theorem dX9_day_3 : decode cX9_day 3 = .ok (.iaload, 1) := by decide +kernel
theorem dX9_day_4 : decode cX9_day 4 = .ok (.iconst 1, 1) := by decide +kernel
theorem dX9_day_5 : decode cX9_day 5 = .ok (.iadd, 1) := by decide +kernel
theorem dX9_day_6 : decode cX9_day 6 = .ok (.iastore, 1) := by decide +kernel
theorem dX9_day_7 : decode cX9_day 7 = .ok (.iconst 0, 1) := by decide +kernel
theorem dX9_day_8 : decode cX9_day 8 = .ok (.istore_n 2, 1) := by decide +kernel
theorem dX9_day_9 : decode cX9_day 9 = .ok (.iload_n 2, 1) := by decide +kernel
theorem dX9_day_10 : decode cX9_day 10 = .ok (.aload_n 0, 1) := by decide +kernel
theorem dX9_day_11 : decode cX9_day 11 = .ok (.iconst 0, 1) := by decide +kernel
theorem dX9_day_12 : decode cX9_day 12 = .ok (.iaload, 1) := by decide +kernel
theorem dX9_day_13 : decode cX9_day 13 = .ok (.if_icmp .ge 150, 3) := by decide +kernel
theorem dX9_day_16 : decode cX9_day 16 = .ok (.aload_n 0, 1) := by decide +kernel
theorem dX9_day_17 : decode cX9_day 17 = .ok (.iload_n 2, 1) := by decide +kernel
theorem dX9_day_18 : decode cX9_day 18 = .ok (.iconst 2, 1) := by decide +kernel
theorem dX9_day_19 : decode cX9_day 19 = .ok (.invokestatic 44, 3) := by decide +kernel
theorem dX9_day_22 : decode cX9_day 22 = .ok (.iaload, 1) := by decide +kernel
theorem dX9_day_23 : decode cX9_day 23 = .ok (.aload_n 0, 1) := by decide +kernel
theorem dX9_day_24 : decode cX9_day 24 = .ok (.iconst 1, 1) := by decide +kernel
theorem dX9_day_25 : decode cX9_day 25 = .ok (.iaload, 1) := by decide +kernel
theorem dX9_day_26 : decode cX9_day 26 = .ok (.bipush 7, 2) := by decide +kernel
theorem dX9_day_28 : decode cX9_day 28 = .ok (.irem, 1) := by decide +kernel
theorem dX9_day_29 : decode cX9_day 29 = .ok (.invokestatic 65, 3) := by decide +kernel
theorem dX9_day_32 : decode cX9_day 32 = .ok (.ifCond .eq 37, 3) := by decide +kernel
theorem dX9_day_35 : decode cX9_day 35 = .ok (.aload_n 0, 1) := by decide +kernel
theorem dX9_day_36 : decode cX9_day 36 = .ok (.iload_n 2, 1) := by decide +kernel
theorem dX9_day_37 : decode cX9_day 37 = .ok (.iconst 3, 1) := by decide +kernel
theorem dX9_day_38 : decode cX9_day 38 = .ok (.invokestatic 44, 3) := by decide +kernel
theorem dX9_day_41 : decode cX9_day 41 = .ok (.aload_n 0, 1) := by decide +kernel
theorem dX9_day_42 : decode cX9_day 42 = .ok (.iload_n 2, 1) := by decide +kernel
theorem dX9_day_43 : decode cX9_day 43 = .ok (.iconst 3, 1) := by decide +kernel
theorem dX9_day_44 : decode cX9_day 44 = .ok (.invokestatic 44, 3) := by decide +kernel
theorem dX9_day_47 : decode cX9_day 47 = .ok (.iaload, 1) := by decide +kernel
theorem dX9_day_48 : decode cX9_day 48 = .ok (.iconst 2, 1) := by decide +kernel
theorem dX9_day_49 : decode cX9_day 49 = .ok (.if_icmp .ge 7, 3) := by decide +kernel
theorem dX9_day_52 : decode cX9_day 52 = .ok (.iconst 0, 1) := by decide +kernel
theorem dX9_day_53 : decode cX9_day 53 = .ok (.goto 12, 3) := by decide +kernel
theorem dX9_day_56 : decode cX9_day 56 = .ok (.aload_n 0, 1) := by decide +kernel
theorem dX9_day_57 : decode cX9_day 57 = .ok (.iload_n 2, 1) := by decide +kernel
theorem dX9_day_58 : decode cX9_day 58 = .ok (.iconst 3, 1) := by decide +kernel
theorem dX9_day_59 : decode cX9_day 59 = .ok (.invokestatic 44, 3) := by decide +kernel
theorem dX9_day_62 : decode cX9_day 62 = .ok (.iaload, 1) := by decide +kernel
theorem dX9_day_63 : decode cX9_day 63 = .ok (.iconst 2, 1) := by decide +kernel
theorem dX9_day_64 : decode cX9_day 64 = .ok (.isub, 1) := by decide +kernel
theorem dX9_day_65 : decode cX9_day 65 = .ok (.iastore, 1) := by decide +kernel
theorem dX9_day_66 : decode cX9_day 66 = .ok (.goto 91, 3) := by decide +kernel
theorem dX9_day_69 : decode cX9_day 69 = .ok (.aload_n 0, 1) := by decide +kernel
theorem dX9_day_70 : decode cX9_day 70 = .ok (.iload_n 2, 1) := by decide +kernel
theorem dX9_day_71 : decode cX9_day 71 = .ok (.iconst 3, 1) := by decide +kernel
theorem dX9_day_72 : decode cX9_day 72 = .ok (.invokestatic 44, 3) := by decide +kernel
theorem dX9_day_75 : decode cX9_day 75 = .ok (.bipush 30, 2) := by decide +kernel
theorem dX9_day_77 : decode cX9_day 77 = .ok (.aload_n 0, 1) := by decide +kernel
theorem dX9_day_78 : decode cX9_day 78 = .ok (.iload_n 2, 1) := by decide +kernel
theorem dX9_day_79 : decode cX9_day 79 = .ok (.iconst 3, 1) := by decide +kernel
theorem dX9_day_80 : decode cX9_day 80 = .ok (.invokestatic 44, 3) := by decide +kernel
theorem dX9_day_83 : decode cX9_day 83 = .ok (.iaload, 1) := by decide +kernel
theorem dX9_day_84 : decode cX9_day 84 = .ok (.iconst 1, 1) := by decide +kernel
theorem dX9_day_85 : decode cX9_day 85 = .ok (.iadd, 1) := by decide +kernel
theorem dX9_day_86 : decode cX9_day 86 = .ok (.invokestatic 79, 3) := by decide +kernel
theorem dX9_day_89 : decode cX9_day 89 = .ok (.iastore, 1) := by decide +kernel
theorem dX9_day_90 : decode cX9_day 90 = .ok (.aload_n 0, 1) := by decide +kernel
theorem dX9_day_91 : decode cX9_day 91 = .ok (.iload_n 2, 1) := by decide +kernel
theorem dX9_day_92 : decode cX9_day 92 = .ok (.iconst 4, 1) := by decide +kernel
theorem dX9_day_93 : decode cX9_day 93 = .ok (.invokestatic 44, 3) := by decide +kernel
theorem dX9_day_96 : decode cX9_day 96 = .ok (.bipush 9, 2) := by decide +kernel
theorem dX9_day_98 : decode cX9_day 98 = .ok (.aload_n 0, 1) := by decide +kernel
theorem dX9_day_99 : decode cX9_day 99 = .ok (.iload_n 2, 1) := by decide +kernel
theorem dX9_day_100 : decode cX9_day 100 = .ok (.iconst 4, 1) := by decide +kernel
theorem dX9_day_101 : decode cX9_day 101 = .ok (.invokestatic 44, 3) := by decide +kernel
theorem dX9_day_104 : decode cX9_day 104 = .ok (.iaload, 1) := by decide +kernel
theorem dX9_day_105 : decode cX9_day 105 = .ok (.iconst 1, 1) := by decide +kernel
theorem dX9_day_106 : decode cX9_day 106 = .ok (.iadd, 1) := by decide +kernel
theorem dX9_day_107 : decode cX9_day 107 = .ok (.invokestatic 79, 3) := by decide +kernel
theorem dX9_day_110 : decode cX9_day 110 = .ok (.iastore, 1) := by decide +kernel
theorem dX9_day_111 : decode cX9_day 111 = .ok (.aload_n 0, 1) := by decide +kernel
theorem dX9_day_112 : decode cX9_day 112 = .ok (.iload_n 2, 1) := by decide +kernel
theorem dX9_day_113 : decode cX9_day 113 = .ok (.iconst 0, 1) := by decide +kernel
theorem dX9_day_114 : decode cX9_day 114 = .ok (.invokestatic 44, 3) := by decide +kernel
theorem dX9_day_117 : decode cX9_day 117 = .ok (.iaload, 1) := by decide +kernel
theorem dX9_day_118 : decode cX9_day 118 = .ok (.aload_n 0, 1) := by decide +kernel
theorem dX9_day_119 : decode cX9_day 119 = .ok (.iload_n 2, 1) := by decide +kernel
theorem dX9_day_120 : decode cX9_day 120 = .ok (.iconst 1, 1) := by decide +kernel
theorem dX9_day_121 : decode cX9_day 121 = .ok (.invokestatic 44, 3) := by decide +kernel
theorem dX9_day_124 : decode cX9_day 124 = .ok (.iaload, 1) := by decide +kernel
theorem dX9_day_125 : decode cX9_day 125 = .ok (.invokestatic 82, 3) := by decide +kernel
theorem dX9_day_128 : decode cX9_day 128 = .ok (.istore_n 3, 1) := by decide +kernel
theorem dX9_day_129 : decode cX9_day 129 = .ok (.iload_n 3, 1) := by decide +kernel
theorem dX9_day_130 : decode cX9_day 130 = .ok (.ifCond .le 27, 3) := by decide +kernel
theorem dX9_day_133 : decode cX9_day 133 = .ok (.aload_n 0, 1) := by decide +kernel
theorem dX9_day_134 : decode cX9_day 134 = .ok (.iload_n 2, 1) := by decide +kernel
theorem dX9_day_135 : decode cX9_day 135 = .ok (.iconst 4, 1) := by decide +kernel
theorem dX9_day_136 : decode cX9_day 136 = .ok (.invokestatic 44, 3) := by decide +kernel
theorem dX9_day_139 : decode cX9_day 139 = .ok (.iaload, 1) := by decide +kernel
theorem dX9_day_140 : decode cX9_day 140 = .ok (.iload_n 3, 1) := by decide +kernel
theorem dX9_day_141 : decode cX9_day 141 = .ok (.if_icmp .lt 16, 3) := by decide +kernel
theorem dX9_day_144 : decode cX9_day 144 = .ok (.iload_n 1, 1) := by decide +kernel
theorem dX9_day_145 : decode cX9_day 145 = .ok (.iload_n 2, 1) := by decide +kernel
theorem dX9_day_146 : decode cX9_day 146 = .ok (.invokestatic 65, 3) := by decide +kernel
theorem dX9_day_149 : decode cX9_day 149 = .ok (.ifCond .ne 8, 3) := by decide +kernel
theorem dX9_day_152 : decode cX9_day 152 = .ok (.aload_n 0, 1) := by decide +kernel
theorem dX9_day_153 : decode cX9_day 153 = .ok (.iload_n 2, 1) := by decide +kernel
theorem dX9_day_154 : decode cX9_day 154 = .ok (.invokestatic 85, 3) := by decide +kernel
theorem dX9_day_157 : decode cX9_day 157 = .ok (.iinc 2 1, 3) := by decide +kernel
theorem dX9_day_160 : decode cX9_day 160 = .ok (.goto (-151), 3) := by decide +kernel
theorem dX9_day_163 : decode cX9_day 163 = .ok (.return_, 1) := by decide +kernel
theorem dX9_daysOn_0 : decode cX9_daysOn 0 = .ok (.iconst 0, 1) := by decide +kernel
theorem dX9_daysOn_1 : decode cX9_daysOn 1 = .ok (.istore_n 2, 1) := by decide +kernel
theorem dX9_daysOn_2 : decode cX9_daysOn 2 = .ok (.iload_n 2, 1) := by decide +kernel
theorem dX9_daysOn_3 : decode cX9_daysOn 3 = .ok (.iload_n 1, 1) := by decide +kernel
theorem dX9_daysOn_4 : decode cX9_daysOn 4 = .ok (.if_icmp .ge 14, 3) := by decide +kernel
theorem dX9_daysOn_7 : decode cX9_daysOn 7 = .ok (.aload_n 0, 1) := by decide +kernel
theorem dX9_daysOn_8 : decode cX9_daysOn 8 = .ok (.iconst 0, 1) := by decide +kernel
theorem dX9_daysOn_9 : decode cX9_daysOn 9 = .ok (.invokestatic 89, 3) := by decide +kernel
theorem dX9_daysOn_12 : decode cX9_daysOn 12 = .ok (.iinc 2 1, 3) := by decide +kernel
theorem dX9_daysOn_15 : decode cX9_daysOn 15 = .ok (.goto (-13), 3) := by decide +kernel
theorem dX9_daysOn_18 : decode cX9_daysOn 18 = .ok (.return_, 1) := by decide +kernel
theorem dX9_inOn_0 : decode cX9_inOn 0 = .ok (.iconst 0, 1) := by decide +kernel
theorem dX9_inOn_1 : decode cX9_inOn 1 = .ok (.istore_n 2, 1) := by decide +kernel
theorem dX9_inOn_2 : decode cX9_inOn 2 = .ok (.iconst 0, 1) := by decide +kernel
theorem dX9_inOn_3 : decode cX9_inOn 3 = .ok (.istore_n 3, 1) := by decide +kernel
theorem dX9_inOn_4 : decode cX9_inOn 4 = .ok (.iload_n 3, 1) := by decide +kernel
theorem dX9_inOn_5 : decode cX9_inOn 5 = .ok (.aload_n 0, 1) := by decide +kernel
theorem dX9_inOn_6 : decode cX9_inOn 6 = .ok (.iconst 0, 1) := by decide +kernel
theorem dX9_inOn_7 : decode cX9_inOn 7 = .ok (.iaload, 1) := by decide +kernel
theorem dX9_inOn_8 : decode cX9_inOn 8 = .ok (.if_icmp .ge 33, 3) := by decide +kernel
theorem dX9_inOn_11 : decode cX9_inOn 11 = .ok (.iload_n 2, 1) := by decide +kernel
theorem dX9_inOn_12 : decode cX9_inOn 12 = .ok (.aload_n 0, 1) := by decide +kernel
theorem dX9_inOn_13 : decode cX9_inOn 13 = .ok (.iload_n 3, 1) := by decide +kernel
theorem dX9_inOn_14 : decode cX9_inOn 14 = .ok (.iconst 2, 1) := by decide +kernel
theorem dX9_inOn_15 : decode cX9_inOn 15 = .ok (.invokestatic 44, 3) := by decide +kernel
theorem dX9_inOn_18 : decode cX9_inOn 18 = .ok (.iaload, 1) := by decide +kernel
theorem dX9_inOn_19 : decode cX9_inOn 19 = .ok (.iload_n 1, 1) := by decide +kernel
theorem dX9_inOn_20 : decode cX9_inOn 20 = .ok (.invokestatic 65, 3) := by decide +kernel
theorem dX9_inOn_23 : decode cX9_inOn 23 = .ok (.ifCond .eq 7, 3) := by decide +kernel
theorem dX9_inOn_26 : decode cX9_inOn 26 = .ok (.iconst 0, 1) := by decide +kernel
theorem dX9_inOn_27 : decode cX9_inOn 27 = .ok (.goto 6, 3) := by decide +kernel
theorem dX9_inOn_30 : decode cX9_inOn 30 = .ok (.iconst 1, 1) := by decide +kernel
theorem dX9_inOn_31 : decode cX9_inOn 31 = .ok (.iload_n 3, 1) := by decide +kernel
theorem dX9_inOn_32 : decode cX9_inOn 32 = .ok (.ishl, 1) := by decide +kernel
theorem dX9_inOn_33 : decode cX9_inOn 33 = .ok (.ior, 1) := by decide +kernel
theorem dX9_inOn_34 : decode cX9_inOn 34 = .ok (.istore_n 2, 1) := by decide +kernel
theorem dX9_inOn_35 : decode cX9_inOn 35 = .ok (.iinc 3 1, 3) := by decide +kernel
theorem dX9_inOn_38 : decode cX9_inOn 38 = .ok (.goto (-34), 3) := by decide +kernel
theorem dX9_inOn_41 : decode cX9_inOn 41 = .ok (.iload_n 2, 1) := by decide +kernel
theorem dX9_inOn_42 : decode cX9_inOn 42 = .ok (.ireturn, 1) := by decide +kernel
theorem dX9_allTired_0 : decode cX9_allTired 0 = .ok (.iconst 0, 1) := by decide +kernel
theorem dX9_allTired_1 : decode cX9_allTired 1 = .ok (.istore_n 1, 1) := by decide +kernel
theorem dX9_allTired_2 : decode cX9_allTired 2 = .ok (.iconst 0, 1) := by decide +kernel
theorem dX9_allTired_3 : decode cX9_allTired 3 = .ok (.istore_n 2, 1) := by decide +kernel
theorem dX9_allTired_4 : decode cX9_allTired 4 = .ok (.iload_n 2, 1) := by decide +kernel
theorem dX9_allTired_5 : decode cX9_allTired 5 = .ok (.aload_n 0, 1) := by decide +kernel
theorem dX9_allTired_6 : decode cX9_allTired 6 = .ok (.iconst 0, 1) := by decide +kernel
theorem dX9_allTired_7 : decode cX9_allTired 7 = .ok (.iaload, 1) := by decide +kernel
theorem dX9_allTired_8 : decode cX9_allTired 8 = .ok (.if_icmp .ge 19, 3) := by decide +kernel
theorem dX9_allTired_11 : decode cX9_allTired 11 = .ok (.iload_n 1, 1) := by decide +kernel
theorem dX9_allTired_12 : decode cX9_allTired 12 = .ok (.aload_n 0, 1) := by decide +kernel
theorem dX9_allTired_13 : decode cX9_allTired 13 = .ok (.iload_n 2, 1) := by decide +kernel
theorem dX9_allTired_14 : decode cX9_allTired 14 = .ok (.iconst 3, 1) := by decide +kernel
theorem dX9_allTired_15 : decode cX9_allTired 15 = .ok (.invokestatic 44, 3) := by decide +kernel
theorem dX9_allTired_18 : decode cX9_allTired 18 = .ok (.iaload, 1) := by decide +kernel
theorem dX9_allTired_19 : decode cX9_allTired 19 = .ok (.iadd, 1) := by decide +kernel
theorem dX9_allTired_20 : decode cX9_allTired 20 = .ok (.istore_n 1, 1) := by decide +kernel
theorem dX9_allTired_21 : decode cX9_allTired 21 = .ok (.iinc 2 1, 3) := by decide +kernel
theorem dX9_allTired_24 : decode cX9_allTired 24 = .ok (.goto (-20), 3) := by decide +kernel
theorem dX9_allTired_27 : decode cX9_allTired 27 = .ok (.iload_n 1, 1) := by decide +kernel
theorem dX9_allTired_28 : decode cX9_allTired 28 = .ok (.ireturn, 1) := by decide +kernel
theorem dX9_letter_0 : decode cX9_letter 0 = .ok (.iload_n 1, 1) := by decide +kernel
theorem dX9_letter_1 : decode cX9_letter 1 = .ok (.ifCond .ge 10, 3) := by decide +kernel
theorem dX9_letter_4 : decode cX9_letter 4 = .ok (.aload_n 0, 1) := by decide +kernel
theorem dX9_letter_5 : decode cX9_letter 5 = .ok (.bipush (-4), 2) := by decide +kernel
theorem dX9_letter_7 : decode cX9_letter 7 = .ok (.invokevirtual 36, 3) := by decide +kernel
theorem dX9_letter_10 : decode cX9_letter 10 = .ok (.ireturn, 1) := by decide +kernel
theorem dX9_letter_11 : decode cX9_letter 11 = .ok (.iload_n 1, 1) := by decide +kernel
theorem dX9_letter_12 : decode cX9_letter 12 = .ok (.sipush 255, 3) := by decide +kernel
theorem dX9_letter_15 : decode cX9_letter 15 = .ok (.if_icmp .gt 12, 3) := by decide +kernel
theorem dX9_letter_18 : decode cX9_letter 18 = .ok (.aload_n 0, 1) := by decide +kernel
theorem dX9_letter_19 : decode cX9_letter 19 = .ok (.getfield 92, 3) := by decide +kernel
theorem dX9_letter_22 : decode cX9_letter 22 = .ok (.bipush 96, 2) := by decide +kernel
theorem dX9_letter_24 : decode cX9_letter 24 = .ok (.if_icmp .ne 10, 3) := by decide +kernel
theorem dX9_letter_27 : decode cX9_letter 27 = .ok (.aload_n 0, 1) := by decide +kernel
theorem dX9_letter_28 : decode cX9_letter 28 = .ok (.bipush (-6), 2) := by decide +kernel
theorem dX9_letter_30 : decode cX9_letter 30 = .ok (.invokevirtual 36, 3) := by decide +kernel
theorem dX9_letter_33 : decode cX9_letter 33 = .ok (.ireturn, 1) := by decide +kernel
theorem dX9_letter_34 : decode cX9_letter 34 = .ok (.aload_n 0, 1) := by decide +kernel
theorem dX9_letter_35 : decode cX9_letter 35 = .ok (.getfield 22, 3) := by decide +kernel
theorem dX9_letter_38 : decode cX9_letter 38 = .ok (.aload_n 0, 1) := by decide +kernel
theorem dX9_letter_39 : decode cX9_letter 39 = .ok (.getfield 92, 3) := by decide +kernel
theorem dX9_letter_42 : decode cX9_letter 42 = .ok (.iload_n 1, 1) := by decide +kernel
theorem dX9_letter_43 : decode cX9_letter 43 = .ok (.iastore, 1) := by decide +kernel
theorem dX9_letter_44 : decode cX9_letter 44 = .ok (.aload_n 0, 1) := by decide +kernel
theorem dX9_letter_45 : decode cX9_letter 45 = .ok (.dup, 1) := by decide +kernel
theorem dX9_letter_46 : decode cX9_letter 46 = .ok (.getfield 92, 3) := by decide +kernel
theorem dX9_letter_49 : decode cX9_letter 49 = .ok (.iconst 1, 1) := by decide +kernel
theorem dX9_letter_50 : decode cX9_letter 50 = .ok (.iadd, 1) := by decide +kernel
theorem dX9_letter_51 : decode cX9_letter 51 = .ok (.putfield 92, 3) := by decide +kernel
theorem dX9_letter_54 : decode cX9_letter 54 = .ok (.aload_n 0, 1) := by decide +kernel
theorem dX9_letter_55 : decode cX9_letter 55 = .ok (.getfield 92, 3) := by decide +kernel
theorem dX9_letter_58 : decode cX9_letter 58 = .ok (.ireturn, 1) := by decide +kernel
theorem dX9_here_0 : decode cX9_here 0 = .ok (.aload_n 0, 1) := by decide +kernel
theorem dX9_here_1 : decode cX9_here 1 = .ok (.getfield 96, 3) := by decide +kernel
theorem dX9_here_4 : decode cX9_here 4 = .ok (.aload_n 0, 1) := by decide +kernel
theorem dX9_here_5 : decode cX9_here 5 = .ok (.getfield 92, 3) := by decide +kernel
theorem dX9_here_8 : decode cX9_here 8 = .ok (.if_icmp .ge 15, 3) := by decide +kernel
theorem dX9_here_11 : decode cX9_here 11 = .ok (.aload_n 0, 1) := by decide +kernel
theorem dX9_here_12 : decode cX9_here 12 = .ok (.getfield 22, 3) := by decide +kernel
theorem dX9_here_15 : decode cX9_here 15 = .ok (.aload_n 0, 1) := by decide +kernel
theorem dX9_here_16 : decode cX9_here 16 = .ok (.getfield 96, 3) := by decide +kernel
theorem dX9_here_19 : decode cX9_here 19 = .ok (.iaload, 1) := by decide +kernel
theorem dX9_here_20 : decode cX9_here 20 = .ok (.goto 4, 3) := by decide +kernel
theorem dX9_here_23 : decode cX9_here 23 = .ok (.iconst (-1), 1) := by decide +kernel
theorem dX9_here_24 : decode cX9_here 24 = .ok (.ireturn, 1) := by decide +kernel
theorem dX9_readsNumber_0 : decode cX9_readsNumber 0 = .ok (.aload_n 0, 1) := by decide +kernel
theorem dX9_readsNumber_1 : decode cX9_readsNumber 1 = .ok (.getfield 31, 3) := by decide +kernel
theorem dX9_readsNumber_4 : decode cX9_readsNumber 4 = .ok (.iload_n 1, 1) := by decide +kernel
theorem dX9_readsNumber_5 : decode cX9_readsNumber 5 = .ok (.iconst 0, 1) := by decide +kernel
theorem dX9_readsNumber_6 : decode cX9_readsNumber 6 = .ok (.iastore, 1) := by decide +kernel
theorem dX9_readsNumber_7 : decode cX9_readsNumber 7 = .ok (.iconst 0, 1) := by decide +kernel
theorem dX9_readsNumber_8 : decode cX9_readsNumber 8 = .ok (.istore_n 3, 1) := by decide +kernel
theorem dX9_readsNumber_9 : decode cX9_readsNumber 9 = .ok (.iload_n 3, 1) := by decide +kernel
theorem dX9_readsNumber_10 : decode cX9_readsNumber 10 = .ok (.iload_n 2, 1) := by decide +kernel
theorem dX9_readsNumber_11 : decode cX9_readsNumber 11 = .ok (.if_icmp .ge 58, 3) := by decide +kernel
theorem dX9_readsNumber_14 : decode cX9_readsNumber 14 = .ok (.aload_n 0, 1) := by decide +kernel
theorem dX9_readsNumber_15 : decode cX9_readsNumber 15 = .ok (.invokevirtual 99, 3) := by decide +kernel
theorem dX9_readsNumber_18 : decode cX9_readsNumber 18 = .ok (.bipush 48, 2) := by decide +kernel
theorem dX9_readsNumber_20 : decode cX9_readsNumber 20 = .ok (.bipush 57, 2) := by decide +kernel
theorem dX9_readsNumber_22 : decode cX9_readsNumber 22 = .ok (.invokestatic 40, 3) := by decide +kernel
theorem dX9_readsNumber_25 : decode cX9_readsNumber 25 = .ok (.ifCond .ne 5, 3) := by decide +kernel
theorem dX9_readsNumber_28 : decode cX9_readsNumber 28 = .ok (.iconst 0, 1) := by decide +kernel
theorem dX9_readsNumber_29 : decode cX9_readsNumber 29 = .ok (.ireturn, 1) := by decide +kernel
theorem dX9_readsNumber_30 : decode cX9_readsNumber 30 = .ok (.aload_n 0, 1) := by decide +kernel
theorem dX9_readsNumber_31 : decode cX9_readsNumber 31 = .ok (.getfield 31, 3) := by decide +kernel
theorem dX9_readsNumber_34 : decode cX9_readsNumber 34 = .ok (.iload_n 1, 1) := by decide +kernel
theorem dX9_readsNumber_35 : decode cX9_readsNumber 35 = .ok (.bipush 10, 2) := by decide +kernel
theorem dX9_readsNumber_37 : decode cX9_readsNumber 37 = .ok (.aload_n 0, 1) := by decide +kernel
theorem dX9_readsNumber_38 : decode cX9_readsNumber 38 = .ok (.getfield 31, 3) := by decide +kernel
theorem dX9_readsNumber_41 : decode cX9_readsNumber 41 = .ok (.iload_n 1, 1) := by decide +kernel
theorem dX9_readsNumber_42 : decode cX9_readsNumber 42 = .ok (.iaload, 1) := by decide +kernel
theorem dX9_readsNumber_43 : decode cX9_readsNumber 43 = .ok (.imul, 1) := by decide +kernel
theorem dX9_readsNumber_44 : decode cX9_readsNumber 44 = .ok (.aload_n 0, 1) := by decide +kernel
theorem dX9_readsNumber_45 : decode cX9_readsNumber 45 = .ok (.invokevirtual 99, 3) := by decide +kernel
theorem dX9_readsNumber_48 : decode cX9_readsNumber 48 = .ok (.iadd, 1) := by decide +kernel
theorem dX9_readsNumber_49 : decode cX9_readsNumber 49 = .ok (.bipush 48, 2) := by decide +kernel
theorem dX9_readsNumber_51 : decode cX9_readsNumber 51 = .ok (.isub, 1) := by decide +kernel
theorem dX9_readsNumber_52 : decode cX9_readsNumber 52 = .ok (.iastore, 1) := by decide +kernel
theorem dX9_readsNumber_53 : decode cX9_readsNumber 53 = .ok (.aload_n 0, 1) := by decide +kernel
theorem dX9_readsNumber_54 : decode cX9_readsNumber 54 = .ok (.dup, 1) := by decide +kernel
theorem dX9_readsNumber_55 : decode cX9_readsNumber 55 = .ok (.getfield 96, 3) := by decide +kernel
theorem dX9_readsNumber_58 : decode cX9_readsNumber 58 = .ok (.iconst 1, 1) := by decide +kernel
theorem dX9_readsNumber_59 : decode cX9_readsNumber 59 = .ok (.iadd, 1) := by decide +kernel
theorem dX9_readsNumber_60 : decode cX9_readsNumber 60 = .ok (.putfield 96, 3) := by decide +kernel
theorem dX9_readsNumber_63 : decode cX9_readsNumber 63 = .ok (.iinc 3 1, 3) := by decide +kernel
theorem dX9_readsNumber_66 : decode cX9_readsNumber 66 = .ok (.goto (-57), 3) := by decide +kernel
theorem dX9_readsNumber_69 : decode cX9_readsNumber 69 = .ok (.iconst 1, 1) := by decide +kernel
theorem dX9_readsNumber_70 : decode cX9_readsNumber 70 = .ok (.ireturn, 1) := by decide +kernel
theorem dX9_kindBy_0 : decode cX9_kindBy 0 = .ok (.iload_n 0, 1) := by decide +kernel
theorem dX9_kindBy_1 : decode cX9_kindBy 1 = .ok (.lookupswitch 71 #[(98, 63), (102, 69), (104, 61), (109, 67), (116, 65), (119, 59)], 59) := by decide +kernel
theorem dX9_kindBy_60 : decode cX9_kindBy 60 = .ok (.iconst 0, 1) := by decide +kernel
theorem dX9_kindBy_61 : decode cX9_kindBy 61 = .ok (.ireturn, 1) := by decide +kernel
theorem dX9_kindBy_62 : decode cX9_kindBy 62 = .ok (.iconst 1, 1) := by decide +kernel
theorem dX9_kindBy_63 : decode cX9_kindBy 63 = .ok (.ireturn, 1) := by decide +kernel
theorem dX9_kindBy_64 : decode cX9_kindBy 64 = .ok (.iconst 2, 1) := by decide +kernel
theorem dX9_kindBy_65 : decode cX9_kindBy 65 = .ok (.ireturn, 1) := by decide +kernel
theorem dX9_kindBy_66 : decode cX9_kindBy 66 = .ok (.iconst 3, 1) := by decide +kernel
theorem dX9_kindBy_67 : decode cX9_kindBy 67 = .ok (.ireturn, 1) := by decide +kernel
theorem dX9_kindBy_68 : decode cX9_kindBy 68 = .ok (.iconst 4, 1) := by decide +kernel
theorem dX9_kindBy_69 : decode cX9_kindBy 69 = .ok (.ireturn, 1) := by decide +kernel
theorem dX9_kindBy_70 : decode cX9_kindBy 70 = .ok (.iconst 5, 1) := by decide +kernel
theorem dX9_kindBy_71 : decode cX9_kindBy 71 = .ok (.ireturn, 1) := by decide +kernel
theorem dX9_kindBy_72 : decode cX9_kindBy 72 = .ok (.bipush (-9), 2) := by decide +kernel
theorem dX9_kindBy_74 : decode cX9_kindBy 74 = .ok (.ireturn, 1) := by decide +kernel
theorem dX9_readsKind_0 : decode cX9_readsKind 0 = .ok (.aload_n 0, 1) := by decide +kernel
theorem dX9_readsKind_1 : decode cX9_readsKind 1 = .ok (.getfield 31, 3) := by decide +kernel
theorem dX9_readsKind_4 : decode cX9_readsKind 4 = .ok (.iconst 0, 1) := by decide +kernel
theorem dX9_readsKind_5 : decode cX9_readsKind 5 = .ok (.aload_n 0, 1) := by decide +kernel
theorem dX9_readsKind_6 : decode cX9_readsKind 6 = .ok (.invokevirtual 99, 3) := by decide +kernel
theorem dX9_readsKind_9 : decode cX9_readsKind 9 = .ok (.invokestatic 103, 3) := by decide +kernel
theorem dX9_readsKind_12 : decode cX9_readsKind 12 = .ok (.iastore, 1) := by decide +kernel
theorem dX9_readsKind_13 : decode cX9_readsKind 13 = .ok (.aload_n 0, 1) := by decide +kernel
theorem dX9_readsKind_14 : decode cX9_readsKind 14 = .ok (.dup, 1) := by decide +kernel
theorem dX9_readsKind_15 : decode cX9_readsKind 15 = .ok (.getfield 96, 3) := by decide +kernel
theorem dX9_readsKind_18 : decode cX9_readsKind 18 = .ok (.aload_n 0, 1) := by decide +kernel
theorem dX9_readsKind_19 : decode cX9_readsKind 19 = .ok (.getfield 31, 3) := by decide +kernel
theorem dX9_readsKind_22 : decode cX9_readsKind 22 = .ok (.iconst 0, 1) := by decide +kernel
theorem dX9_readsKind_23 : decode cX9_readsKind 23 = .ok (.iaload, 1) := by decide +kernel
theorem dX9_readsKind_24 : decode cX9_readsKind 24 = .ok (.ifCond .ge 7, 3) := by decide +kernel
theorem dX9_readsKind_27 : decode cX9_readsKind 27 = .ok (.iconst 0, 1) := by decide +kernel
theorem dX9_readsKind_28 : decode cX9_readsKind 28 = .ok (.goto 4, 3) := by decide +kernel
theorem dX9_readsKind_31 : decode cX9_readsKind 31 = .ok (.iconst 1, 1) := by decide +kernel
theorem dX9_readsKind_32 : decode cX9_readsKind 32 = .ok (.iadd, 1) := by decide +kernel
theorem dX9_readsKind_33 : decode cX9_readsKind 33 = .ok (.putfield 96, 3) := by decide +kernel
theorem dX9_readsKind_36 : decode cX9_readsKind 36 = .ok (.aload_n 0, 1) := by decide +kernel
theorem dX9_readsKind_37 : decode cX9_readsKind 37 = .ok (.getfield 31, 3) := by decide +kernel
theorem dX9_readsKind_40 : decode cX9_readsKind 40 = .ok (.iconst 0, 1) := by decide +kernel
theorem dX9_readsKind_41 : decode cX9_readsKind 41 = .ok (.iaload, 1) := by decide +kernel
theorem dX9_readsKind_42 : decode cX9_readsKind 42 = .ok (.ifCond .lt 7, 3) := by decide +kernel
theorem dX9_readsKind_45 : decode cX9_readsKind 45 = .ok (.iconst 1, 1) := by decide +kernel
theorem dX9_readsKind_46 : decode cX9_readsKind 46 = .ok (.goto 4, 3) := by decide +kernel
theorem dX9_readsKind_49 : decode cX9_readsKind 49 = .ok (.iconst 0, 1) := by decide +kernel
theorem dX9_readsKind_50 : decode cX9_readsKind 50 = .ok (.ireturn, 1) := by decide +kernel
theorem dX9_readsStatement_0 : decode cX9_readsStatement 0 = .ok (.aload_n 0, 1) := by decide +kernel
theorem dX9_readsStatement_1 : decode cX9_readsStatement 1 = .ok (.invokevirtual 99, 3) := by decide +kernel
theorem dX9_readsStatement_4 : decode cX9_readsStatement 4 = .ok (.istore_n 1, 1) := by decide +kernel
theorem dX9_readsStatement_5 : decode cX9_readsStatement 5 = .ok (.aload_n 0, 1) := by decide +kernel
theorem dX9_readsStatement_6 : decode cX9_readsStatement 6 = .ok (.dup, 1) := by decide +kernel
theorem dX9_readsStatement_7 : decode cX9_readsStatement 7 = .ok (.getfield 96, 3) := by decide +kernel
theorem dX9_readsStatement_10 : decode cX9_readsStatement 10 = .ok (.iconst 1, 1) := by decide +kernel
theorem dX9_readsStatement_11 : decode cX9_readsStatement 11 = .ok (.iadd, 1) := by decide +kernel
theorem dX9_readsStatement_12 : decode cX9_readsStatement 12 = .ok (.putfield 96, 3) := by decide +kernel
theorem dX9_readsStatement_15 : decode cX9_readsStatement 15 = .ok (.iload_n 1, 1) := by decide +kernel
theorem dX9_readsStatement_16 : decode cX9_readsStatement 16 = .ok (.lookupswitch 186 #[(100, 176), (111, 86), (116, 113), (119, 52), (120, 140)], 52) := by decide +kernel
theorem dX9_readsStatement_68 : decode cX9_readsStatement 68 = .ok (.aload_n 0, 1) := by decide +kernel
theorem dX9_readsStatement_69 : decode cX9_readsStatement 69 = .ok (.invokevirtual 106, 3) := by decide +kernel
theorem dX9_readsStatement_72 : decode cX9_readsStatement 72 = .ok (.ifCond .eq 25, 3) := by decide +kernel
theorem dX9_readsStatement_75 : decode cX9_readsStatement 75 = .ok (.aload_n 0, 1) := by decide +kernel
theorem dX9_readsStatement_76 : decode cX9_readsStatement 76 = .ok (.iconst 1, 1) := by decide +kernel
theorem dX9_readsStatement_77 : decode cX9_readsStatement 77 = .ok (.iconst 1, 1) := by decide +kernel
theorem dX9_readsStatement_78 : decode cX9_readsStatement 78 = .ok (.invokevirtual 110, 3) := by decide +kernel
theorem dX9_readsStatement_81 : decode cX9_readsStatement 81 = .ok (.ifCond .eq 16, 3) := by decide +kernel
theorem dX9_readsStatement_84 : decode cX9_readsStatement 84 = .ok (.aload_n 0, 1) := by decide +kernel
theorem dX9_readsStatement_85 : decode cX9_readsStatement 85 = .ok (.iconst 2, 1) := by decide +kernel
theorem dX9_readsStatement_86 : decode cX9_readsStatement 86 = .ok (.iconst 3, 1) := by decide +kernel
theorem dX9_readsStatement_87 : decode cX9_readsStatement 87 = .ok (.invokevirtual 110, 3) := by decide +kernel
theorem dX9_readsStatement_90 : decode cX9_readsStatement 90 = .ok (.ifCond .eq 7, 3) := by decide +kernel
theorem dX9_readsStatement_93 : decode cX9_readsStatement 93 = .ok (.iconst 1, 1) := by decide +kernel
theorem dX9_readsStatement_94 : decode cX9_readsStatement 94 = .ok (.goto 4, 3) := by decide +kernel
theorem dX9_readsStatement_97 : decode cX9_readsStatement 97 = .ok (.iconst 0, 1) := by decide +kernel
theorem dX9_readsStatement_98 : decode cX9_readsStatement 98 = .ok (.istore_n 2, 1) := by decide +kernel
theorem dX9_readsStatement_99 : decode cX9_readsStatement 99 = .ok (.goto 115, 3) := by decide +kernel
theorem dX9_readsStatement_102 : decode cX9_readsStatement 102 = .ok (.aload_n 0, 1) := by decide +kernel
theorem dX9_readsStatement_103 : decode cX9_readsStatement 103 = .ok (.iconst 0, 1) := by decide +kernel
theorem dX9_readsStatement_104 : decode cX9_readsStatement 104 = .ok (.iconst 1, 1) := by decide +kernel
theorem dX9_readsStatement_105 : decode cX9_readsStatement 105 = .ok (.invokevirtual 110, 3) := by decide +kernel
theorem dX9_readsStatement_108 : decode cX9_readsStatement 108 = .ok (.ifCond .eq 16, 3) := by decide +kernel
theorem dX9_readsStatement_111 : decode cX9_readsStatement 111 = .ok (.aload_n 0, 1) := by decide +kernel
theorem dX9_readsStatement_112 : decode cX9_readsStatement 112 = .ok (.iconst 1, 1) := by decide +kernel
theorem dX9_readsStatement_113 : decode cX9_readsStatement 113 = .ok (.iconst 1, 1) := by decide +kernel
theorem dX9_readsStatement_114 : decode cX9_readsStatement 114 = .ok (.invokevirtual 110, 3) := by decide +kernel
theorem dX9_readsStatement_117 : decode cX9_readsStatement 117 = .ok (.ifCond .eq 7, 3) := by decide +kernel
theorem dX9_readsStatement_120 : decode cX9_readsStatement 120 = .ok (.iconst 1, 1) := by decide +kernel
theorem dX9_readsStatement_121 : decode cX9_readsStatement 121 = .ok (.goto 4, 3) := by decide +kernel
theorem dX9_readsStatement_124 : decode cX9_readsStatement 124 = .ok (.iconst 0, 1) := by decide +kernel
theorem dX9_readsStatement_125 : decode cX9_readsStatement 125 = .ok (.istore_n 2, 1) := by decide +kernel
theorem dX9_readsStatement_126 : decode cX9_readsStatement 126 = .ok (.goto 88, 3) := by decide +kernel
theorem dX9_readsStatement_129 : decode cX9_readsStatement 129 = .ok (.aload_n 0, 1) := by decide +kernel
theorem dX9_readsStatement_130 : decode cX9_readsStatement 130 = .ok (.iconst 0, 1) := by decide +kernel
theorem dX9_readsStatement_131 : decode cX9_readsStatement 131 = .ok (.iconst 1, 1) := by decide +kernel
theorem dX9_readsStatement_132 : decode cX9_readsStatement 132 = .ok (.invokevirtual 110, 3) := by decide +kernel
theorem dX9_readsStatement_135 : decode cX9_readsStatement 135 = .ok (.ifCond .eq 16, 3) := by decide +kernel
theorem dX9_readsStatement_138 : decode cX9_readsStatement 138 = .ok (.aload_n 0, 1) := by decide +kernel
theorem dX9_readsStatement_139 : decode cX9_readsStatement 139 = .ok (.iconst 1, 1) := by decide +kernel
theorem dX9_readsStatement_140 : decode cX9_readsStatement 140 = .ok (.iconst 2, 1) := by decide +kernel
theorem dX9_readsStatement_141 : decode cX9_readsStatement 141 = .ok (.invokevirtual 110, 3) := by decide +kernel
theorem dX9_readsStatement_144 : decode cX9_readsStatement 144 = .ok (.ifCond .eq 7, 3) := by decide +kernel
theorem dX9_readsStatement_147 : decode cX9_readsStatement 147 = .ok (.iconst 1, 1) := by decide +kernel
theorem dX9_readsStatement_148 : decode cX9_readsStatement 148 = .ok (.goto 4, 3) := by decide +kernel
theorem dX9_readsStatement_151 : decode cX9_readsStatement 151 = .ok (.iconst 0, 1) := by decide +kernel
theorem dX9_readsStatement_152 : decode cX9_readsStatement 152 = .ok (.istore_n 2, 1) := by decide +kernel
theorem dX9_readsStatement_153 : decode cX9_readsStatement 153 = .ok (.goto 61, 3) := by decide +kernel
theorem dX9_readsStatement_156 : decode cX9_readsStatement 156 = .ok (.aload_n 0, 1) := by decide +kernel
theorem dX9_readsStatement_157 : decode cX9_readsStatement 157 = .ok (.iconst 0, 1) := by decide +kernel
theorem dX9_readsStatement_158 : decode cX9_readsStatement 158 = .ok (.iconst 1, 1) := by decide +kernel
theorem dX9_readsStatement_159 : decode cX9_readsStatement 159 = .ok (.invokevirtual 110, 3) := by decide +kernel
theorem dX9_readsStatement_162 : decode cX9_readsStatement 162 = .ok (.ifCond .eq 25, 3) := by decide +kernel
theorem dX9_readsStatement_165 : decode cX9_readsStatement 165 = .ok (.aload_n 0, 1) := by decide +kernel
theorem dX9_readsStatement_166 : decode cX9_readsStatement 166 = .ok (.iconst 1, 1) := by decide +kernel
theorem dX9_readsStatement_167 : decode cX9_readsStatement 167 = .ok (.iconst 1, 1) := by decide +kernel
theorem dX9_readsStatement_168 : decode cX9_readsStatement 168 = .ok (.invokevirtual 110, 3) := by decide +kernel
theorem dX9_readsStatement_171 : decode cX9_readsStatement 171 = .ok (.ifCond .eq 16, 3) := by decide +kernel
theorem dX9_readsStatement_174 : decode cX9_readsStatement 174 = .ok (.aload_n 0, 1) := by decide +kernel
theorem dX9_readsStatement_175 : decode cX9_readsStatement 175 = .ok (.iconst 2, 1) := by decide +kernel
theorem dX9_readsStatement_176 : decode cX9_readsStatement 176 = .ok (.iconst 1, 1) := by decide +kernel
theorem dX9_readsStatement_177 : decode cX9_readsStatement 177 = .ok (.invokevirtual 110, 3) := by decide +kernel
theorem dX9_readsStatement_180 : decode cX9_readsStatement 180 = .ok (.ifCond .eq 7, 3) := by decide +kernel
theorem dX9_readsStatement_183 : decode cX9_readsStatement 183 = .ok (.iconst 1, 1) := by decide +kernel
theorem dX9_readsStatement_184 : decode cX9_readsStatement 184 = .ok (.goto 4, 3) := by decide +kernel
theorem dX9_readsStatement_187 : decode cX9_readsStatement 187 = .ok (.iconst 0, 1) := by decide +kernel
theorem dX9_readsStatement_188 : decode cX9_readsStatement 188 = .ok (.istore_n 2, 1) := by decide +kernel
theorem dX9_readsStatement_189 : decode cX9_readsStatement 189 = .ok (.goto 25, 3) := by decide +kernel
theorem dX9_readsStatement_192 : decode cX9_readsStatement 192 = .ok (.aload_n 0, 1) := by decide +kernel
theorem dX9_readsStatement_193 : decode cX9_readsStatement 193 = .ok (.iconst 0, 1) := by decide +kernel
theorem dX9_readsStatement_194 : decode cX9_readsStatement 194 = .ok (.iconst 2, 1) := by decide +kernel
theorem dX9_readsStatement_195 : decode cX9_readsStatement 195 = .ok (.invokevirtual 110, 3) := by decide +kernel
theorem dX9_readsStatement_198 : decode cX9_readsStatement 198 = .ok (.istore_n 2, 1) := by decide +kernel
theorem dX9_readsStatement_199 : decode cX9_readsStatement 199 = .ok (.goto 15, 3) := by decide +kernel
theorem dX9_readsStatement_202 : decode cX9_readsStatement 202 = .ok (.aload_n 0, 1) := by decide +kernel
theorem dX9_readsStatement_203 : decode cX9_readsStatement 203 = .ok (.dup, 1) := by decide +kernel
theorem dX9_readsStatement_204 : decode cX9_readsStatement 204 = .ok (.getfield 96, 3) := by decide +kernel
theorem dX9_readsStatement_207 : decode cX9_readsStatement 207 = .ok (.iconst 1, 1) := by decide +kernel
theorem dX9_readsStatement_208 : decode cX9_readsStatement 208 = .ok (.isub, 1) := by decide +kernel
theorem dX9_readsStatement_209 : decode cX9_readsStatement 209 = .ok (.putfield 96, 3) := by decide +kernel
theorem dX9_readsStatement_212 : decode cX9_readsStatement 212 = .ok (.iconst 0, 1) := by decide +kernel
theorem dX9_readsStatement_213 : decode cX9_readsStatement 213 = .ok (.ireturn, 1) := by decide +kernel
theorem dX9_readsStatement_214 : decode cX9_readsStatement 214 = .ok (.iload_n 2, 1) := by decide +kernel
theorem dX9_readsStatement_215 : decode cX9_readsStatement 215 = .ok (.ifCond .eq 12, 3) := by decide +kernel
theorem dX9_readsStatement_218 : decode cX9_readsStatement 218 = .ok (.aload_n 0, 1) := by decide +kernel
theorem dX9_readsStatement_219 : decode cX9_readsStatement 219 = .ok (.invokevirtual 99, 3) := by decide +kernel
theorem dX9_readsStatement_222 : decode cX9_readsStatement 222 = .ok (.bipush 59, 2) := by decide +kernel
theorem dX9_readsStatement_224 : decode cX9_readsStatement 224 = .ok (.if_icmp .eq 5, 3) := by decide +kernel
theorem dX9_readsStatement_227 : decode cX9_readsStatement 227 = .ok (.iconst 0, 1) := by decide +kernel
theorem dX9_readsStatement_228 : decode cX9_readsStatement 228 = .ok (.ireturn, 1) := by decide +kernel
theorem dX9_readsStatement_229 : decode cX9_readsStatement 229 = .ok (.aload_n 0, 1) := by decide +kernel
theorem dX9_readsStatement_230 : decode cX9_readsStatement 230 = .ok (.dup, 1) := by decide +kernel
theorem dX9_readsStatement_231 : decode cX9_readsStatement 231 = .ok (.getfield 96, 3) := by decide +kernel
theorem dX9_readsStatement_234 : decode cX9_readsStatement 234 = .ok (.iconst 1, 1) := by decide +kernel
theorem dX9_readsStatement_235 : decode cX9_readsStatement 235 = .ok (.iadd, 1) := by decide +kernel
theorem dX9_readsStatement_236 : decode cX9_readsStatement 236 = .ok (.putfield 96, 3) := by decide +kernel
end
section
theorem dX9_readsStatement_239 : decode cX9_readsStatement 239 = .ok (.iconst 1, 1) := by decide +kernel
theorem dX9_readsStatement_240 : decode cX9_readsStatement 240 = .ok (.ireturn, 1) := by decide +kernel
theorem dX9_canGive_0 : decode cX9_canGive 0 = .ok (.aload_n 0, 1) := by decide +kernel
theorem dX9_canGive_1 : decode cX9_canGive 1 = .ok (.getfield 9, 3) := by decide +kernel
theorem dX9_canGive_4 : decode cX9_canGive 4 = .ok (.iload_n 1, 1) := by decide +kernel
theorem dX9_canGive_5 : decode cX9_canGive 5 = .ok (.iconst 2, 1) := by decide +kernel
theorem dX9_canGive_6 : decode cX9_canGive 6 = .ok (.invokestatic 44, 3) := by decide +kernel
theorem dX9_canGive_9 : decode cX9_canGive 9 = .ok (.iaload, 1) := by decide +kernel
theorem dX9_canGive_10 : decode cX9_canGive 10 = .ok (.iload_n 3, 1) := by decide +kernel
theorem dX9_canGive_11 : decode cX9_canGive 11 = .ok (.invokestatic 65, 3) := by decide +kernel
theorem dX9_canGive_14 : decode cX9_canGive 14 = .ok (.ifCond .eq 24, 3) := by decide +kernel
theorem dX9_canGive_17 : decode cX9_canGive 17 = .ok (.aload_n 0, 1) := by decide +kernel
theorem dX9_canGive_18 : decode cX9_canGive 18 = .ok (.getfield 9, 3) := by decide +kernel
theorem dX9_canGive_21 : decode cX9_canGive 21 = .ok (.iload_n 2, 1) := by decide +kernel
theorem dX9_canGive_22 : decode cX9_canGive 22 = .ok (.iconst 2, 1) := by decide +kernel
theorem dX9_canGive_23 : decode cX9_canGive 23 = .ok (.invokestatic 44, 3) := by decide +kernel
theorem dX9_canGive_26 : decode cX9_canGive 26 = .ok (.iaload, 1) := by decide +kernel
theorem dX9_canGive_27 : decode cX9_canGive 27 = .ok (.iload_n 3, 1) := by decide +kernel
theorem dX9_canGive_28 : decode cX9_canGive 28 = .ok (.invokestatic 65, 3) := by decide +kernel
theorem dX9_canGive_31 : decode cX9_canGive 31 = .ok (.ifCond .ne 7, 3) := by decide +kernel
theorem dX9_canGive_34 : decode cX9_canGive 34 = .ok (.iconst 1, 1) := by decide +kernel
theorem dX9_canGive_35 : decode cX9_canGive 35 = .ok (.goto 4, 3) := by decide +kernel
theorem dX9_canGive_38 : decode cX9_canGive 38 = .ok (.iconst 0, 1) := by decide +kernel
theorem dX9_canGive_39 : decode cX9_canGive 39 = .ok (.ireturn, 1) := by decide +kernel
theorem dX9_isDone_0 : decode cX9_isDone 0 = .ok (.aload_n 0, 1) := by decide +kernel
theorem dX9_isDone_1 : decode cX9_isDone 1 = .ok (.getfield 31, 3) := by decide +kernel
theorem dX9_isDone_4 : decode cX9_isDone 4 = .ok (.iconst 0, 1) := by decide +kernel
theorem dX9_isDone_5 : decode cX9_isDone 5 = .ok (.iaload, 1) := by decide +kernel
theorem dX9_isDone_6 : decode cX9_isDone 6 = .ok (.istore_n 2, 1) := by decide +kernel
theorem dX9_isDone_7 : decode cX9_isDone 7 = .ok (.aload_n 0, 1) := by decide +kernel
theorem dX9_isDone_8 : decode cX9_isDone 8 = .ok (.getfield 31, 3) := by decide +kernel
theorem dX9_isDone_11 : decode cX9_isDone 11 = .ok (.iconst 1, 1) := by decide +kernel
theorem dX9_isDone_12 : decode cX9_isDone 12 = .ok (.iaload, 1) := by decide +kernel
theorem dX9_isDone_13 : decode cX9_isDone 13 = .ok (.istore_n 3, 1) := by decide +kernel
theorem dX9_isDone_14 : decode cX9_isDone 14 = .ok (.iload_n 1, 1) := by decide +kernel
theorem dX9_isDone_15 : decode cX9_isDone 15 = .ok (.tableswitch 290 111 120 #[159, 290, 290, 290, 290, 194, 290, 290, 53, 223], 53) := by decide +kernel
theorem dX9_isDone_68 : decode cX9_isDone 68 = .ok (.aload_n 0, 1) := by decide +kernel
theorem dX9_isDone_69 : decode cX9_isDone 69 = .ok (.getfield 31, 3) := by decide +kernel
theorem dX9_isDone_72 : decode cX9_isDone 72 = .ok (.iconst 2, 1) := by decide +kernel
theorem dX9_isDone_73 : decode cX9_isDone 73 = .ok (.iaload, 1) := by decide +kernel
theorem dX9_isDone_74 : decode cX9_isDone 74 = .ok (.bipush 127, 2) := by decide +kernel
theorem dX9_isDone_76 : decode cX9_isDone 76 = .ok (.if_icmp .gt 14, 3) := by decide +kernel
theorem dX9_isDone_79 : decode cX9_isDone 79 = .ok (.aload_n 0, 1) := by decide +kernel
theorem dX9_isDone_80 : decode cX9_isDone 80 = .ok (.getfield 9, 3) := by decide +kernel
theorem dX9_isDone_83 : decode cX9_isDone 83 = .ok (.iconst 0, 1) := by decide +kernel
theorem dX9_isDone_84 : decode cX9_isDone 84 = .ok (.iaload, 1) := by decide +kernel
theorem dX9_isDone_85 : decode cX9_isDone 85 = .ok (.bipush 6, 2) := by decide +kernel
theorem dX9_isDone_87 : decode cX9_isDone 87 = .ok (.if_icmp .ne 5, 3) := by decide +kernel
theorem dX9_isDone_90 : decode cX9_isDone 90 = .ok (.iconst 0, 1) := by decide +kernel
theorem dX9_isDone_91 : decode cX9_isDone 91 = .ok (.ireturn, 1) := by decide +kernel
theorem dX9_isDone_92 : decode cX9_isDone 92 = .ok (.iconst 0, 1) := by decide +kernel
theorem dX9_isDone_93 : decode cX9_isDone 93 = .ok (.istore 4, 2) := by decide +kernel
theorem dX9_isDone_95 : decode cX9_isDone 95 = .ok (.iload 4, 2) := by decide +kernel
theorem dX9_isDone_97 : decode cX9_isDone 97 = .ok (.iconst 3, 1) := by decide +kernel
theorem dX9_isDone_98 : decode cX9_isDone 98 = .ok (.if_icmp .ge 32, 3) := by decide +kernel
theorem dX9_isDone_101 : decode cX9_isDone 101 = .ok (.aload_n 0, 1) := by decide +kernel
theorem dX9_isDone_102 : decode cX9_isDone 102 = .ok (.getfield 9, 3) := by decide +kernel
theorem dX9_isDone_105 : decode cX9_isDone 105 = .ok (.aload_n 0, 1) := by decide +kernel
theorem dX9_isDone_106 : decode cX9_isDone 106 = .ok (.getfield 9, 3) := by decide +kernel
theorem dX9_isDone_109 : decode cX9_isDone 109 = .ok (.iconst 0, 1) := by decide +kernel
theorem dX9_isDone_110 : decode cX9_isDone 110 = .ok (.iaload, 1) := by decide +kernel
theorem dX9_isDone_111 : decode cX9_isDone 111 = .ok (.iload 4, 2) := by decide +kernel
theorem dX9_isDone_113 : decode cX9_isDone 113 = .ok (.invokestatic 44, 3) := by decide +kernel
theorem dX9_isDone_116 : decode cX9_isDone 116 = .ok (.aload_n 0, 1) := by decide +kernel
theorem dX9_isDone_117 : decode cX9_isDone 117 = .ok (.getfield 31, 3) := by decide +kernel
theorem dX9_isDone_120 : decode cX9_isDone 120 = .ok (.iload 4, 2) := by decide +kernel
theorem dX9_isDone_122 : decode cX9_isDone 122 = .ok (.iaload, 1) := by decide +kernel
theorem dX9_isDone_123 : decode cX9_isDone 123 = .ok (.iastore, 1) := by decide +kernel
theorem dX9_isDone_124 : decode cX9_isDone 124 = .ok (.iinc 4 1, 3) := by decide +kernel
theorem dX9_isDone_127 : decode cX9_isDone 127 = .ok (.goto (-32), 3) := by decide +kernel
theorem dX9_isDone_130 : decode cX9_isDone 130 = .ok (.aload_n 0, 1) := by decide +kernel
theorem dX9_isDone_131 : decode cX9_isDone 131 = .ok (.getfield 9, 3) := by decide +kernel
theorem dX9_isDone_134 : decode cX9_isDone 134 = .ok (.aload_n 0, 1) := by decide +kernel
theorem dX9_isDone_135 : decode cX9_isDone 135 = .ok (.getfield 9, 3) := by decide +kernel
theorem dX9_isDone_138 : decode cX9_isDone 138 = .ok (.iconst 0, 1) := by decide +kernel
theorem dX9_isDone_139 : decode cX9_isDone 139 = .ok (.iaload, 1) := by decide +kernel
theorem dX9_isDone_140 : decode cX9_isDone 140 = .ok (.iconst 3, 1) := by decide +kernel
theorem dX9_isDone_141 : decode cX9_isDone 141 = .ok (.invokestatic 44, 3) := by decide +kernel
theorem dX9_isDone_144 : decode cX9_isDone 144 = .ok (.iconst 0, 1) := by decide +kernel
theorem dX9_isDone_145 : decode cX9_isDone 145 = .ok (.iastore, 1) := by decide +kernel
theorem dX9_isDone_146 : decode cX9_isDone 146 = .ok (.aload_n 0, 1) := by decide +kernel
theorem dX9_isDone_147 : decode cX9_isDone 147 = .ok (.getfield 9, 3) := by decide +kernel
theorem dX9_isDone_150 : decode cX9_isDone 150 = .ok (.aload_n 0, 1) := by decide +kernel
theorem dX9_isDone_151 : decode cX9_isDone 151 = .ok (.getfield 9, 3) := by decide +kernel
theorem dX9_isDone_154 : decode cX9_isDone 154 = .ok (.iconst 0, 1) := by decide +kernel
theorem dX9_isDone_155 : decode cX9_isDone 155 = .ok (.iaload, 1) := by decide +kernel
theorem dX9_isDone_156 : decode cX9_isDone 156 = .ok (.iconst 4, 1) := by decide +kernel
theorem dX9_isDone_157 : decode cX9_isDone 157 = .ok (.invokestatic 44, 3) := by decide +kernel
theorem dX9_isDone_160 : decode cX9_isDone 160 = .ok (.iconst 0, 1) := by decide +kernel
theorem dX9_isDone_161 : decode cX9_isDone 161 = .ok (.iastore, 1) := by decide +kernel
theorem dX9_isDone_162 : decode cX9_isDone 162 = .ok (.aload_n 0, 1) := by decide +kernel
theorem dX9_isDone_163 : decode cX9_isDone 163 = .ok (.getfield 9, 3) := by decide +kernel
theorem dX9_isDone_166 : decode cX9_isDone 166 = .ok (.iconst 0, 1) := by decide +kernel
theorem dX9_isDone_167 : decode cX9_isDone 167 = .ok (.dup2, 1) := by decide +kernel
theorem dX9_isDone_168 : decode cX9_isDone 168 = .ok (.iaload, 1) := by decide +kernel
theorem dX9_isDone_169 : decode cX9_isDone 169 = .ok (.iconst 1, 1) := by decide +kernel
theorem dX9_isDone_170 : decode cX9_isDone 170 = .ok (.iadd, 1) := by decide +kernel
theorem dX9_isDone_171 : decode cX9_isDone 171 = .ok (.iastore, 1) := by decide +kernel
theorem dX9_isDone_172 : decode cX9_isDone 172 = .ok (.iconst 1, 1) := by decide +kernel
theorem dX9_isDone_173 : decode cX9_isDone 173 = .ok (.ireturn, 1) := by decide +kernel
theorem dX9_isDone_174 : decode cX9_isDone 174 = .ok (.aload_n 0, 1) := by decide +kernel
theorem dX9_isDone_175 : decode cX9_isDone 175 = .ok (.iload_n 2, 1) := by decide +kernel
theorem dX9_isDone_176 : decode cX9_isDone 176 = .ok (.invokevirtual 113, 3) := by decide +kernel
theorem dX9_isDone_179 : decode cX9_isDone 179 = .ok (.ifCond .eq 10, 3) := by decide +kernel
theorem dX9_isDone_182 : decode cX9_isDone 182 = .ok (.iload_n 3, 1) := by decide +kernel
theorem dX9_isDone_183 : decode cX9_isDone 183 = .ok (.invokestatic 117, 3) := by decide +kernel
theorem dX9_isDone_186 : decode cX9_isDone 186 = .ok (.ifCond .ne 5, 3) := by decide +kernel
theorem dX9_isDone_189 : decode cX9_isDone 189 = .ok (.iconst 0, 1) := by decide +kernel
theorem dX9_isDone_190 : decode cX9_isDone 190 = .ok (.ireturn, 1) := by decide +kernel
theorem dX9_isDone_191 : decode cX9_isDone 191 = .ok (.aload_n 0, 1) := by decide +kernel
theorem dX9_isDone_192 : decode cX9_isDone 192 = .ok (.getfield 9, 3) := by decide +kernel
theorem dX9_isDone_195 : decode cX9_isDone 195 = .ok (.iload_n 2, 1) := by decide +kernel
theorem dX9_isDone_196 : decode cX9_isDone 196 = .ok (.iconst 2, 1) := by decide +kernel
theorem dX9_isDone_197 : decode cX9_isDone 197 = .ok (.invokestatic 44, 3) := by decide +kernel
theorem dX9_isDone_200 : decode cX9_isDone 200 = .ok (.dup2, 1) := by decide +kernel
theorem dX9_isDone_201 : decode cX9_isDone 201 = .ok (.iaload, 1) := by decide +kernel
theorem dX9_isDone_202 : decode cX9_isDone 202 = .ok (.iconst 1, 1) := by decide +kernel
theorem dX9_isDone_203 : decode cX9_isDone 203 = .ok (.iload_n 3, 1) := by decide +kernel
theorem dX9_isDone_204 : decode cX9_isDone 204 = .ok (.ishl, 1) := by decide +kernel
theorem dX9_isDone_205 : decode cX9_isDone 205 = .ok (.ixor, 1) := by decide +kernel
theorem dX9_isDone_206 : decode cX9_isDone 206 = .ok (.iastore, 1) := by decide +kernel
theorem dX9_isDone_207 : decode cX9_isDone 207 = .ok (.iconst 1, 1) := by decide +kernel
theorem dX9_isDone_208 : decode cX9_isDone 208 = .ok (.ireturn, 1) := by decide +kernel
theorem dX9_isDone_209 : decode cX9_isDone 209 = .ok (.aload_n 0, 1) := by decide +kernel
theorem dX9_isDone_210 : decode cX9_isDone 210 = .ok (.iload_n 2, 1) := by decide +kernel
theorem dX9_isDone_211 : decode cX9_isDone 211 = .ok (.invokevirtual 113, 3) := by decide +kernel
theorem dX9_isDone_214 : decode cX9_isDone 214 = .ok (.ifCond .eq 9, 3) := by decide +kernel
theorem dX9_isDone_217 : decode cX9_isDone 217 = .ok (.iload_n 3, 1) := by decide +kernel
theorem dX9_isDone_218 : decode cX9_isDone 218 = .ok (.bipush 30, 2) := by decide +kernel
theorem dX9_isDone_220 : decode cX9_isDone 220 = .ok (.if_icmp .le 5, 3) := by decide +kernel
theorem dX9_isDone_223 : decode cX9_isDone 223 = .ok (.iconst 0, 1) := by decide +kernel
theorem dX9_isDone_224 : decode cX9_isDone 224 = .ok (.ireturn, 1) := by decide +kernel
theorem dX9_isDone_225 : decode cX9_isDone 225 = .ok (.aload_n 0, 1) := by decide +kernel
theorem dX9_isDone_226 : decode cX9_isDone 226 = .ok (.getfield 9, 3) := by decide +kernel
theorem dX9_isDone_229 : decode cX9_isDone 229 = .ok (.iload_n 2, 1) := by decide +kernel
theorem dX9_isDone_230 : decode cX9_isDone 230 = .ok (.iconst 3, 1) := by decide +kernel
theorem dX9_isDone_231 : decode cX9_isDone 231 = .ok (.invokestatic 44, 3) := by decide +kernel
theorem dX9_isDone_234 : decode cX9_isDone 234 = .ok (.iload_n 3, 1) := by decide +kernel
theorem dX9_isDone_235 : decode cX9_isDone 235 = .ok (.iastore, 1) := by decide +kernel
theorem dX9_isDone_236 : decode cX9_isDone 236 = .ok (.iconst 1, 1) := by decide +kernel
theorem dX9_isDone_237 : decode cX9_isDone 237 = .ok (.ireturn, 1) := by decide +kernel
theorem dX9_isDone_238 : decode cX9_isDone 238 = .ok (.aload_n 0, 1) := by decide +kernel
theorem dX9_isDone_239 : decode cX9_isDone 239 = .ok (.iload_n 2, 1) := by decide +kernel
theorem dX9_isDone_240 : decode cX9_isDone 240 = .ok (.invokevirtual 113, 3) := by decide +kernel
theorem dX9_isDone_243 : decode cX9_isDone 243 = .ok (.ifCond .eq 43, 3) := by decide +kernel
theorem dX9_isDone_246 : decode cX9_isDone 246 = .ok (.aload_n 0, 1) := by decide +kernel
theorem dX9_isDone_247 : decode cX9_isDone 247 = .ok (.iload_n 3, 1) := by decide +kernel
theorem dX9_isDone_248 : decode cX9_isDone 248 = .ok (.invokevirtual 113, 3) := by decide +kernel
theorem dX9_isDone_251 : decode cX9_isDone 251 = .ok (.ifCond .eq 35, 3) := by decide +kernel
theorem dX9_isDone_254 : decode cX9_isDone 254 = .ok (.iload_n 2, 1) := by decide +kernel
theorem dX9_isDone_255 : decode cX9_isDone 255 = .ok (.iload_n 3, 1) := by decide +kernel
theorem dX9_isDone_256 : decode cX9_isDone 256 = .ok (.if_icmp .eq 30, 3) := by decide +kernel
theorem dX9_isDone_259 : decode cX9_isDone 259 = .ok (.aload_n 0, 1) := by decide +kernel
theorem dX9_isDone_260 : decode cX9_isDone 260 = .ok (.getfield 31, 3) := by decide +kernel
theorem dX9_isDone_263 : decode cX9_isDone 263 = .ok (.iconst 2, 1) := by decide +kernel
theorem dX9_isDone_264 : decode cX9_isDone 264 = .ok (.iaload, 1) := by decide +kernel
theorem dX9_isDone_265 : decode cX9_isDone 265 = .ok (.invokestatic 117, 3) := by decide +kernel
theorem dX9_isDone_268 : decode cX9_isDone 268 = .ok (.ifCond .eq 18, 3) := by decide +kernel
theorem dX9_isDone_271 : decode cX9_isDone 271 = .ok (.aload_n 0, 1) := by decide +kernel
theorem dX9_isDone_272 : decode cX9_isDone 272 = .ok (.iload_n 2, 1) := by decide +kernel
theorem dX9_isDone_273 : decode cX9_isDone 273 = .ok (.iload_n 3, 1) := by decide +kernel
theorem dX9_isDone_274 : decode cX9_isDone 274 = .ok (.aload_n 0, 1) := by decide +kernel
theorem dX9_isDone_275 : decode cX9_isDone 275 = .ok (.getfield 31, 3) := by decide +kernel
theorem dX9_isDone_278 : decode cX9_isDone 278 = .ok (.iconst 2, 1) := by decide +kernel
theorem dX9_isDone_279 : decode cX9_isDone 279 = .ok (.iaload, 1) := by decide +kernel
theorem dX9_isDone_280 : decode cX9_isDone 280 = .ok (.invokevirtual 120, 3) := by decide +kernel
theorem dX9_isDone_283 : decode cX9_isDone 283 = .ok (.ifCond .ne 5, 3) := by decide +kernel
theorem dX9_isDone_286 : decode cX9_isDone 286 = .ok (.iconst 0, 1) := by decide +kernel
theorem dX9_isDone_287 : decode cX9_isDone 287 = .ok (.ireturn, 1) := by decide +kernel
theorem dX9_isDone_288 : decode cX9_isDone 288 = .ok (.aload_n 0, 1) := by decide +kernel
theorem dX9_isDone_289 : decode cX9_isDone 289 = .ok (.getfield 9, 3) := by decide +kernel
theorem dX9_isDone_292 : decode cX9_isDone 292 = .ok (.iload_n 2, 1) := by decide +kernel
theorem dX9_isDone_293 : decode cX9_isDone 293 = .ok (.iload_n 3, 1) := by decide +kernel
theorem dX9_isDone_294 : decode cX9_isDone 294 = .ok (.aload_n 0, 1) := by decide +kernel
theorem dX9_isDone_295 : decode cX9_isDone 295 = .ok (.getfield 31, 3) := by decide +kernel
theorem dX9_isDone_298 : decode cX9_isDone 298 = .ok (.iconst 2, 1) := by decide +kernel
theorem dX9_isDone_299 : decode cX9_isDone 299 = .ok (.iaload, 1) := by decide +kernel
theorem dX9_isDone_300 : decode cX9_isDone 300 = .ok (.invokestatic 75, 3) := by decide +kernel
theorem dX9_isDone_303 : decode cX9_isDone 303 = .ok (.iconst 1, 1) := by decide +kernel
theorem dX9_isDone_304 : decode cX9_isDone 304 = .ok (.ireturn, 1) := by decide +kernel
theorem dX9_isDone_305 : decode cX9_isDone 305 = .ok (.iload_n 2, 1) := by decide +kernel
theorem dX9_isDone_306 : decode cX9_isDone 306 = .ok (.iconst 1, 1) := by decide +kernel
theorem dX9_isDone_307 : decode cX9_isDone 307 = .ok (.bipush 60, 2) := by decide +kernel
theorem dX9_isDone_309 : decode cX9_isDone 309 = .ok (.invokestatic 40, 3) := by decide +kernel
theorem dX9_isDone_312 : decode cX9_isDone 312 = .ok (.ifCond .eq 17, 3) := by decide +kernel
theorem dX9_isDone_315 : decode cX9_isDone 315 = .ok (.aload_n 0, 1) := by decide +kernel
theorem dX9_isDone_316 : decode cX9_isDone 316 = .ok (.getfield 9, 3) := by decide +kernel
theorem dX9_isDone_319 : decode cX9_isDone 319 = .ok (.iconst 1, 1) := by decide +kernel
theorem dX9_isDone_320 : decode cX9_isDone 320 = .ok (.iaload, 1) := by decide +kernel
theorem dX9_isDone_321 : decode cX9_isDone 321 = .ok (.iload_n 2, 1) := by decide +kernel
theorem dX9_isDone_322 : decode cX9_isDone 322 = .ok (.iadd, 1) := by decide +kernel
theorem dX9_isDone_323 : decode cX9_isDone 323 = .ok (.sipush 999, 3) := by decide +kernel
theorem dX9_isDone_326 : decode cX9_isDone 326 = .ok (.if_icmp .le 5, 3) := by decide +kernel
theorem dX9_isDone_329 : decode cX9_isDone 329 = .ok (.iconst 0, 1) := by decide +kernel
theorem dX9_isDone_330 : decode cX9_isDone 330 = .ok (.ireturn, 1) := by decide +kernel
theorem dX9_isDone_331 : decode cX9_isDone 331 = .ok (.aload_n 0, 1) := by decide +kernel
theorem dX9_isDone_332 : decode cX9_isDone 332 = .ok (.getfield 9, 3) := by decide +kernel
theorem dX9_isDone_335 : decode cX9_isDone 335 = .ok (.iload_n 2, 1) := by decide +kernel
theorem dX9_isDone_336 : decode cX9_isDone 336 = .ok (.invokestatic 123, 3) := by decide +kernel
theorem dX9_isDone_339 : decode cX9_isDone 339 = .ok (.iconst 1, 1) := by decide +kernel
theorem dX9_isDone_340 : decode cX9_isDone 340 = .ok (.ireturn, 1) := by decide +kernel
theorem dX9_works_0 : decode cX9_works 0 = .ok (.aload_n 0, 1) := by decide +kernel
theorem dX9_works_1 : decode cX9_works 1 = .ok (.iconst 0, 1) := by decide +kernel
theorem dX9_works_2 : decode cX9_works 2 = .ok (.putfield 96, 3) := by decide +kernel
theorem dX9_works_5 : decode cX9_works 5 = .ok (.iconst 0, 1) := by decide +kernel
theorem dX9_works_6 : decode cX9_works 6 = .ok (.istore_n 1, 1) := by decide +kernel
theorem dX9_works_7 : decode cX9_works 7 = .ok (.bipush (-9), 2) := by decide +kernel
theorem dX9_works_9 : decode cX9_works 9 = .ok (.istore_n 2, 1) := by decide +kernel
theorem dX9_works_10 : decode cX9_works 10 = .ok (.aload_n 0, 1) := by decide +kernel
theorem dX9_works_11 : decode cX9_works 11 = .ok (.invokevirtual 126, 3) := by decide +kernel
theorem dX9_works_14 : decode cX9_works 14 = .ok (.ifCond .ne 12, 3) := by decide +kernel
theorem dX9_works_17 : decode cX9_works 17 = .ok (.sipush (-1000), 3) := by decide +kernel
theorem dX9_works_20 : decode cX9_works 20 = .ok (.aload_n 0, 1) := by decide +kernel
theorem dX9_works_21 : decode cX9_works 21 = .ok (.getfield 96, 3) := by decide +kernel
theorem dX9_works_24 : decode cX9_works 24 = .ok (.isub, 1) := by decide +kernel
theorem dX9_works_25 : decode cX9_works 25 = .ok (.istore_n 2, 1) := by decide +kernel
theorem dX9_works_26 : decode cX9_works 26 = .ok (.iinc 1 1, 3) := by decide +kernel
theorem dX9_works_29 : decode cX9_works 29 = .ok (.iload_n 2, 1) := by decide +kernel
theorem dX9_works_30 : decode cX9_works 30 = .ok (.bipush (-9), 2) := by decide +kernel
theorem dX9_works_32 : decode cX9_works 32 = .ok (.if_icmp .ne 14, 3) := by decide +kernel
theorem dX9_works_35 : decode cX9_works 35 = .ok (.aload_n 0, 1) := by decide +kernel
theorem dX9_works_36 : decode cX9_works 36 = .ok (.getfield 96, 3) := by decide +kernel
theorem dX9_works_39 : decode cX9_works 39 = .ok (.aload_n 0, 1) := by decide +kernel
theorem dX9_works_40 : decode cX9_works 40 = .ok (.getfield 92, 3) := by decide +kernel
theorem dX9_works_43 : decode cX9_works 43 = .ok (.if_icmp .lt (-33), 3) := by decide +kernel
theorem dX9_works_46 : decode cX9_works 46 = .ok (.aload_n 0, 1) := by decide +kernel
theorem dX9_works_47 : decode cX9_works 47 = .ok (.getfield 9, 3) := by decide +kernel
theorem dX9_works_50 : decode cX9_works 50 = .ok (.aload_n 0, 1) := by decide +kernel
theorem dX9_works_51 : decode cX9_works 51 = .ok (.getfield 19, 3) := by decide +kernel
theorem dX9_works_54 : decode cX9_works 54 = .ok (.invokestatic 129, 3) := by decide +kernel
theorem dX9_works_57 : decode cX9_works 57 = .ok (.aload_n 0, 1) := by decide +kernel
theorem dX9_works_58 : decode cX9_works 58 = .ok (.iconst 0, 1) := by decide +kernel
theorem dX9_works_59 : decode cX9_works 59 = .ok (.putfield 96, 3) := by decide +kernel
theorem dX9_works_62 : decode cX9_works 62 = .ok (.iload_n 2, 1) := by decide +kernel
theorem dX9_works_63 : decode cX9_works 63 = .ok (.bipush (-9), 2) := by decide +kernel
theorem dX9_works_65 : decode cX9_works 65 = .ok (.if_icmp .ne 63, 3) := by decide +kernel
theorem dX9_works_68 : decode cX9_works 68 = .ok (.aload_n 0, 1) := by decide +kernel
theorem dX9_works_69 : decode cX9_works 69 = .ok (.getfield 96, 3) := by decide +kernel
theorem dX9_works_72 : decode cX9_works 72 = .ok (.aload_n 0, 1) := by decide +kernel
theorem dX9_works_73 : decode cX9_works 73 = .ok (.getfield 92, 3) := by decide +kernel
theorem dX9_works_76 : decode cX9_works 76 = .ok (.if_icmp .ge 52, 3) := by decide +kernel
theorem dX9_works_79 : decode cX9_works 79 = .ok (.aload_n 0, 1) := by decide +kernel
theorem dX9_works_80 : decode cX9_works 80 = .ok (.getfield 96, 3) := by decide +kernel
theorem dX9_works_83 : decode cX9_works 83 = .ok (.istore_n 3, 1) := by decide +kernel
theorem dX9_works_84 : decode cX9_works 84 = .ok (.aload_n 0, 1) := by decide +kernel
theorem dX9_works_85 : decode cX9_works 85 = .ok (.invokevirtual 99, 3) := by decide +kernel
theorem dX9_works_88 : decode cX9_works 88 = .ok (.istore 4, 2) := by decide +kernel
theorem dX9_works_90 : decode cX9_works 90 = .ok (.aload_n 0, 1) := by decide +kernel
theorem dX9_works_91 : decode cX9_works 91 = .ok (.invokevirtual 126, 3) := by decide +kernel
theorem dX9_works_94 : decode cX9_works 94 = .ok (.istore 5, 2) := by decide +kernel
theorem dX9_works_96 : decode cX9_works 96 = .ok (.aload_n 0, 1) := by decide +kernel
theorem dX9_works_97 : decode cX9_works 97 = .ok (.iload 4, 2) := by decide +kernel
theorem dX9_works_99 : decode cX9_works 99 = .ok (.invokevirtual 133, 3) := by decide +kernel
theorem dX9_works_102 : decode cX9_works 102 = .ok (.ifCond .eq 6, 3) := by decide +kernel
theorem dX9_works_105 : decode cX9_works 105 = .ok (.goto (-43), 3) := by decide +kernel
theorem dX9_works_108 : decode cX9_works 108 = .ok (.sipush (-2000), 3) := by decide +kernel
theorem dX9_works_111 : decode cX9_works 111 = .ok (.iload_n 3, 1) := by decide +kernel
theorem dX9_works_112 : decode cX9_works 112 = .ok (.isub, 1) := by decide +kernel
theorem dX9_works_113 : decode cX9_works 113 = .ok (.istore_n 2, 1) := by decide +kernel
theorem dX9_works_114 : decode cX9_works 114 = .ok (.aload_n 0, 1) := by decide +kernel
theorem dX9_works_115 : decode cX9_works 115 = .ok (.getfield 19, 3) := by decide +kernel
theorem dX9_works_118 : decode cX9_works 118 = .ok (.aload_n 0, 1) := by decide +kernel
theorem dX9_works_119 : decode cX9_works 119 = .ok (.getfield 9, 3) := by decide +kernel
theorem dX9_works_122 : decode cX9_works 122 = .ok (.invokestatic 129, 3) := by decide +kernel
theorem dX9_works_125 : decode cX9_works 125 = .ok (.goto (-63), 3) := by decide +kernel
theorem dX9_works_128 : decode cX9_works 128 = .ok (.aload_n 0, 1) := by decide +kernel
theorem dX9_works_129 : decode cX9_works 129 = .ok (.iconst 0, 1) := by decide +kernel
theorem dX9_works_130 : decode cX9_works 130 = .ok (.putfield 92, 3) := by decide +kernel
theorem dX9_works_133 : decode cX9_works 133 = .ok (.iload_n 2, 1) := by decide +kernel
theorem dX9_works_134 : decode cX9_works 134 = .ok (.bipush (-9), 2) := by decide +kernel
theorem dX9_works_136 : decode cX9_works 136 = .ok (.if_icmp .ne 7, 3) := by decide +kernel
theorem dX9_works_139 : decode cX9_works 139 = .ok (.iload_n 1, 1) := by decide +kernel
theorem dX9_works_140 : decode cX9_works 140 = .ok (.goto 4, 3) := by decide +kernel
theorem dX9_works_143 : decode cX9_works 143 = .ok (.iload_n 2, 1) := by decide +kernel
theorem dX9_works_144 : decode cX9_works 144 = .ok (.ireturn, 1) := by decide +kernel
theorem dX9_worker_0 : decode cX9_worker 0 = .ok (.aload_n 0, 1) := by decide +kernel
theorem dX9_worker_1 : decode cX9_worker 1 = .ok (.iload_n 1, 1) := by decide +kernel
theorem dX9_worker_2 : decode cX9_worker 2 = .ok (.invokevirtual 113, 3) := by decide +kernel
theorem dX9_worker_5 : decode cX9_worker 5 = .ok (.ifCond .ne 9, 3) := by decide +kernel
theorem dX9_worker_8 : decode cX9_worker 8 = .ok (.aload_n 0, 1) := by decide +kernel
theorem dX9_worker_9 : decode cX9_worker 9 = .ok (.iconst (-1), 1) := by decide +kernel
theorem dX9_worker_10 : decode cX9_worker 10 = .ok (.invokevirtual 36, 3) := by decide +kernel
theorem dX9_worker_13 : decode cX9_worker 13 = .ok (.ireturn, 1) := by decide +kernel
theorem dX9_worker_14 : decode cX9_worker 14 = .ok (.iload_n 2, 1) := by decide +kernel
theorem dX9_worker_15 : decode cX9_worker 15 = .ok (.iconst 0, 1) := by decide +kernel
theorem dX9_worker_16 : decode cX9_worker 16 = .ok (.iconst 4, 1) := by decide +kernel
theorem dX9_worker_17 : decode cX9_worker 17 = .ok (.invokestatic 40, 3) := by decide +kernel
theorem dX9_worker_20 : decode cX9_worker 20 = .ok (.ifCond .eq 14, 3) := by decide +kernel
theorem dX9_worker_23 : decode cX9_worker 23 = .ok (.aload_n 0, 1) := by decide +kernel
theorem dX9_worker_24 : decode cX9_worker 24 = .ok (.getfield 9, 3) := by decide +kernel
theorem dX9_worker_27 : decode cX9_worker 27 = .ok (.iload_n 1, 1) := by decide +kernel
theorem dX9_worker_28 : decode cX9_worker 28 = .ok (.iload_n 2, 1) := by decide +kernel
theorem dX9_worker_29 : decode cX9_worker 29 = .ok (.invokestatic 44, 3) := by decide +kernel
theorem dX9_worker_32 : decode cX9_worker 32 = .ok (.iaload, 1) := by decide +kernel
theorem dX9_worker_33 : decode cX9_worker 33 = .ok (.ireturn, 1) := by decide +kernel
theorem dX9_worker_34 : decode cX9_worker 34 = .ok (.iload_n 2, 1) := by decide +kernel
theorem dX9_worker_35 : decode cX9_worker 35 = .ok (.iconst 5, 1) := by decide +kernel
theorem dX9_worker_36 : decode cX9_worker 36 = .ok (.if_icmp .ne 29, 3) := by decide +kernel
theorem dX9_worker_39 : decode cX9_worker 39 = .ok (.aload_n 0, 1) := by decide +kernel
theorem dX9_worker_40 : decode cX9_worker 40 = .ok (.getfield 9, 3) := by decide +kernel
theorem dX9_worker_43 : decode cX9_worker 43 = .ok (.iload_n 1, 1) := by decide +kernel
theorem dX9_worker_44 : decode cX9_worker 44 = .ok (.iconst 0, 1) := by decide +kernel
theorem dX9_worker_45 : decode cX9_worker 45 = .ok (.invokestatic 44, 3) := by decide +kernel
theorem dX9_worker_48 : decode cX9_worker 48 = .ok (.iaload, 1) := by decide +kernel
theorem dX9_worker_49 : decode cX9_worker 49 = .ok (.aload_n 0, 1) := by decide +kernel
theorem dX9_worker_50 : decode cX9_worker 50 = .ok (.getfield 9, 3) := by decide +kernel
theorem dX9_worker_53 : decode cX9_worker 53 = .ok (.iload_n 1, 1) := by decide +kernel
theorem dX9_worker_54 : decode cX9_worker 54 = .ok (.iconst 1, 1) := by decide +kernel
theorem dX9_worker_55 : decode cX9_worker 55 = .ok (.invokestatic 44, 3) := by decide +kernel
theorem dX9_worker_58 : decode cX9_worker 58 = .ok (.iaload, 1) := by decide +kernel
theorem dX9_worker_59 : decode cX9_worker 59 = .ok (.invokestatic 82, 3) := by decide +kernel
theorem dX9_worker_62 : decode cX9_worker 62 = .ok (.goto 9, 3) := by decide +kernel
theorem dX9_worker_65 : decode cX9_worker 65 = .ok (.aload_n 0, 1) := by decide +kernel
theorem dX9_worker_66 : decode cX9_worker 66 = .ok (.bipush (-2), 2) := by decide +kernel
theorem dX9_worker_68 : decode cX9_worker 68 = .ok (.invokevirtual 36, 3) := by decide +kernel
theorem dX9_worker_71 : decode cX9_worker 71 = .ok (.ireturn, 1) := by decide +kernel
theorem dX9_from_0 : decode cX9_from 0 = .ok (.aload_n 0, 1) := by decide +kernel
theorem dX9_from_1 : decode cX9_from 1 = .ok (.iload_n 1, 1) := by decide +kernel
theorem dX9_from_2 : decode cX9_from 2 = .ok (.invokevirtual 113, 3) := by decide +kernel
theorem dX9_from_5 : decode cX9_from 5 = .ok (.ifCond .ne 9, 3) := by decide +kernel
theorem dX9_from_8 : decode cX9_from 8 = .ok (.aload_n 0, 1) := by decide +kernel
theorem dX9_from_9 : decode cX9_from 9 = .ok (.iconst (-1), 1) := by decide +kernel
theorem dX9_from_10 : decode cX9_from 10 = .ok (.invokevirtual 36, 3) := by decide +kernel
theorem dX9_from_13 : decode cX9_from 13 = .ok (.ireturn, 1) := by decide +kernel
theorem dX9_from_14 : decode cX9_from 14 = .ok (.iload_n 2, 1) := by decide +kernel
theorem dX9_from_15 : decode cX9_from 15 = .ok (.iconst 0, 1) := by decide +kernel
theorem dX9_from_16 : decode cX9_from 16 = .ok (.iconst 1, 1) := by decide +kernel
theorem dX9_from_17 : decode cX9_from 17 = .ok (.invokestatic 40, 3) := by decide +kernel
theorem dX9_from_20 : decode cX9_from 20 = .ok (.ifCond .ne 10, 3) := by decide +kernel
theorem dX9_from_23 : decode cX9_from 23 = .ok (.aload_n 0, 1) := by decide +kernel
theorem dX9_from_24 : decode cX9_from 24 = .ok (.bipush (-2), 2) := by decide +kernel
theorem dX9_from_26 : decode cX9_from 26 = .ok (.invokevirtual 36, 3) := by decide +kernel
theorem dX9_from_29 : decode cX9_from 29 = .ok (.ireturn, 1) := by decide +kernel
theorem dX9_from_30 : decode cX9_from 30 = .ok (.aload_n 0, 1) := by decide +kernel
theorem dX9_from_31 : decode cX9_from 31 = .ok (.getfield 9, 3) := by decide +kernel
theorem dX9_from_34 : decode cX9_from 34 = .ok (.iload_n 1, 1) := by decide +kernel
theorem dX9_from_35 : decode cX9_from 35 = .ok (.invokestatic 69, 3) := by decide +kernel
theorem dX9_from_38 : decode cX9_from 38 = .ok (.istore_n 3, 1) := by decide +kernel
theorem dX9_from_39 : decode cX9_from 39 = .ok (.iload_n 3, 1) := by decide +kernel
theorem dX9_from_40 : decode cX9_from 40 = .ok (.ifCond .lt 7, 3) := by decide +kernel
theorem dX9_from_43 : decode cX9_from 43 = .ok (.iload_n 2, 1) := by decide +kernel
theorem dX9_from_44 : decode cX9_from 44 = .ok (.ifCond .ne 7, 3) := by decide +kernel
theorem dX9_from_47 : decode cX9_from 47 = .ok (.iload_n 3, 1) := by decide +kernel
theorem dX9_from_48 : decode cX9_from 48 = .ok (.goto 12, 3) := by decide +kernel
theorem dX9_from_51 : decode cX9_from 51 = .ok (.aload_n 0, 1) := by decide +kernel
theorem dX9_from_52 : decode cX9_from 52 = .ok (.getfield 9, 3) := by decide +kernel
theorem dX9_from_55 : decode cX9_from 55 = .ok (.iload_n 1, 1) := by decide +kernel
theorem dX9_from_56 : decode cX9_from 56 = .ok (.iload_n 3, 1) := by decide +kernel
theorem dX9_from_57 : decode cX9_from 57 = .ok (.invokestatic 72, 3) := by decide +kernel
theorem dX9_from_60 : decode cX9_from 60 = .ok (.ireturn, 1) := by decide +kernel
theorem dX9_frees_0 : decode cX9_frees 0 = .ok (.aload_n 0, 1) := by decide +kernel
theorem dX9_frees_1 : decode cX9_frees 1 = .ok (.iload_n 1, 1) := by decide +kernel
theorem dX9_frees_2 : decode cX9_frees 2 = .ok (.invokevirtual 113, 3) := by decide +kernel
theorem dX9_frees_5 : decode cX9_frees 5 = .ok (.ifCond .eq 10, 3) := by decide +kernel
theorem dX9_frees_8 : decode cX9_frees 8 = .ok (.iload_n 2, 1) := by decide +kernel
theorem dX9_frees_9 : decode cX9_frees 9 = .ok (.invokestatic 117, 3) := by decide +kernel
theorem dX9_frees_12 : decode cX9_frees 12 = .ok (.ifCond .ne 9, 3) := by decide +kernel
theorem dX9_frees_15 : decode cX9_frees 15 = .ok (.aload_n 0, 1) := by decide +kernel
theorem dX9_frees_16 : decode cX9_frees 16 = .ok (.iconst (-1), 1) := by decide +kernel
theorem dX9_frees_17 : decode cX9_frees 17 = .ok (.invokevirtual 36, 3) := by decide +kernel
theorem dX9_frees_20 : decode cX9_frees 20 = .ok (.ireturn, 1) := by decide +kernel
theorem dX9_frees_21 : decode cX9_frees 21 = .ok (.aload_n 0, 1) := by decide +kernel
theorem dX9_frees_22 : decode cX9_frees 22 = .ok (.getfield 9, 3) := by decide +kernel
theorem dX9_frees_25 : decode cX9_frees 25 = .ok (.iload_n 1, 1) := by decide +kernel
theorem dX9_frees_26 : decode cX9_frees 26 = .ok (.iconst 2, 1) := by decide +kernel
theorem dX9_frees_27 : decode cX9_frees 27 = .ok (.invokestatic 44, 3) := by decide +kernel
theorem dX9_frees_30 : decode cX9_frees 30 = .ok (.dup2, 1) := by decide +kernel
theorem dX9_frees_31 : decode cX9_frees 31 = .ok (.iaload, 1) := by decide +kernel
theorem dX9_frees_32 : decode cX9_frees 32 = .ok (.iconst 1, 1) := by decide +kernel
theorem dX9_frees_33 : decode cX9_frees 33 = .ok (.iload_n 2, 1) := by decide +kernel
theorem dX9_frees_34 : decode cX9_frees 34 = .ok (.ishl, 1) := by decide +kernel
theorem dX9_frees_35 : decode cX9_frees 35 = .ok (.ixor, 1) := by decide +kernel
theorem dX9_frees_36 : decode cX9_frees 36 = .ok (.iastore, 1) := by decide +kernel
theorem dX9_frees_37 : decode cX9_frees 37 = .ok (.aload_n 0, 1) := by decide +kernel
theorem dX9_frees_38 : decode cX9_frees 38 = .ok (.getfield 9, 3) := by decide +kernel
theorem dX9_frees_41 : decode cX9_frees 41 = .ok (.iload_n 1, 1) := by decide +kernel
theorem dX9_frees_42 : decode cX9_frees 42 = .ok (.iconst 2, 1) := by decide +kernel
theorem dX9_frees_43 : decode cX9_frees 43 = .ok (.invokestatic 44, 3) := by decide +kernel
theorem dX9_frees_46 : decode cX9_frees 46 = .ok (.iaload, 1) := by decide +kernel
theorem dX9_frees_47 : decode cX9_frees 47 = .ok (.ireturn, 1) := by decide +kernel
theorem dX9_gives_0 : decode cX9_gives 0 = .ok (.aload_n 0, 1) := by decide +kernel
theorem dX9_gives_1 : decode cX9_gives 1 = .ok (.iload_n 1, 1) := by decide +kernel
theorem dX9_gives_2 : decode cX9_gives 2 = .ok (.invokevirtual 113, 3) := by decide +kernel
theorem dX9_gives_5 : decode cX9_gives 5 = .ok (.ifCond .eq 23, 3) := by decide +kernel
theorem dX9_gives_8 : decode cX9_gives 8 = .ok (.aload_n 0, 1) := by decide +kernel
theorem dX9_gives_9 : decode cX9_gives 9 = .ok (.iload_n 2, 1) := by decide +kernel
theorem dX9_gives_10 : decode cX9_gives 10 = .ok (.invokevirtual 113, 3) := by decide +kernel
theorem dX9_gives_13 : decode cX9_gives 13 = .ok (.ifCond .eq 15, 3) := by decide +kernel
theorem dX9_gives_16 : decode cX9_gives 16 = .ok (.iload_n 1, 1) := by decide +kernel
theorem dX9_gives_17 : decode cX9_gives 17 = .ok (.iload_n 2, 1) := by decide +kernel
theorem dX9_gives_18 : decode cX9_gives 18 = .ok (.if_icmp .eq 10, 3) := by decide +kernel
theorem dX9_gives_21 : decode cX9_gives 21 = .ok (.iload_n 3, 1) := by decide +kernel
theorem dX9_gives_22 : decode cX9_gives 22 = .ok (.invokestatic 117, 3) := by decide +kernel
theorem dX9_gives_25 : decode cX9_gives 25 = .ok (.ifCond .ne 9, 3) := by decide +kernel
theorem dX9_gives_28 : decode cX9_gives 28 = .ok (.aload_n 0, 1) := by decide +kernel
theorem dX9_gives_29 : decode cX9_gives 29 = .ok (.iconst (-1), 1) := by decide +kernel
theorem dX9_gives_30 : decode cX9_gives 30 = .ok (.invokevirtual 36, 3) := by decide +kernel
theorem dX9_gives_33 : decode cX9_gives 33 = .ok (.ireturn, 1) := by decide +kernel
theorem dX9_gives_34 : decode cX9_gives 34 = .ok (.aload_n 0, 1) := by decide +kernel
theorem dX9_gives_35 : decode cX9_gives 35 = .ok (.iload_n 1, 1) := by decide +kernel
theorem dX9_gives_36 : decode cX9_gives 36 = .ok (.iload_n 2, 1) := by decide +kernel
theorem dX9_gives_37 : decode cX9_gives 37 = .ok (.iload_n 3, 1) := by decide +kernel
theorem dX9_gives_38 : decode cX9_gives 38 = .ok (.invokevirtual 120, 3) := by decide +kernel
theorem dX9_gives_41 : decode cX9_gives 41 = .ok (.ifCond .ne 10, 3) := by decide +kernel
theorem dX9_gives_44 : decode cX9_gives 44 = .ok (.aload_n 0, 1) := by decide +kernel
theorem dX9_gives_45 : decode cX9_gives 45 = .ok (.bipush (-3), 2) := by decide +kernel
theorem dX9_gives_47 : decode cX9_gives 47 = .ok (.invokevirtual 36, 3) := by decide +kernel
theorem dX9_gives_50 : decode cX9_gives 50 = .ok (.ireturn, 1) := by decide +kernel
theorem dX9_gives_51 : decode cX9_gives 51 = .ok (.aload_n 0, 1) := by decide +kernel
theorem dX9_gives_52 : decode cX9_gives 52 = .ok (.getfield 9, 3) := by decide +kernel
theorem dX9_gives_55 : decode cX9_gives 55 = .ok (.iload_n 1, 1) := by decide +kernel
theorem dX9_gives_56 : decode cX9_gives 56 = .ok (.iload_n 2, 1) := by decide +kernel
theorem dX9_gives_57 : decode cX9_gives 57 = .ok (.iload_n 3, 1) := by decide +kernel
theorem dX9_gives_58 : decode cX9_gives 58 = .ok (.invokestatic 75, 3) := by decide +kernel
theorem dX9_gives_61 : decode cX9_gives 61 = .ok (.aload_n 0, 1) := by decide +kernel
theorem dX9_gives_62 : decode cX9_gives 62 = .ok (.getfield 9, 3) := by decide +kernel
theorem dX9_gives_65 : decode cX9_gives 65 = .ok (.iload_n 2, 1) := by decide +kernel
theorem dX9_gives_66 : decode cX9_gives 66 = .ok (.iconst 2, 1) := by decide +kernel
theorem dX9_gives_67 : decode cX9_gives 67 = .ok (.invokestatic 44, 3) := by decide +kernel
theorem dX9_gives_70 : decode cX9_gives 70 = .ok (.iaload, 1) := by decide +kernel
theorem dX9_gives_71 : decode cX9_gives 71 = .ok (.ireturn, 1) := by decide +kernel
theorem dX9_wrongBy_0 : decode cX9_wrongBy 0 = .ok (.iload_n 0, 1) := by decide +kernel
theorem dX9_wrongBy_1 : decode cX9_wrongBy 1 = .ok (.iload_n 1, 1) := by decide +kernel
theorem dX9_wrongBy_2 : decode cX9_wrongBy 2 = .ok (.if_icmp .ge 8, 3) := by decide +kernel
theorem dX9_wrongBy_5 : decode cX9_wrongBy 5 = .ok (.bipush (-4), 2) := by decide +kernel
theorem dX9_wrongBy_7 : decode cX9_wrongBy 7 = .ok (.goto 14, 3) := by decide +kernel
theorem dX9_wrongBy_10 : decode cX9_wrongBy 10 = .ok (.iload_n 0, 1) := by decide +kernel
theorem dX9_wrongBy_11 : decode cX9_wrongBy 11 = .ok (.iload_n 2, 1) := by decide +kernel
theorem dX9_wrongBy_12 : decode cX9_wrongBy 12 = .ok (.if_icmp .le 8, 3) := by decide +kernel
theorem dX9_wrongBy_15 : decode cX9_wrongBy 15 = .ok (.bipush (-6), 2) := by decide +kernel
theorem dX9_wrongBy_17 : decode cX9_wrongBy 17 = .ok (.goto 4, 3) := by decide +kernel
theorem dX9_wrongBy_20 : decode cX9_wrongBy 20 = .ok (.iconst 0, 1) := by decide +kernel
theorem dX9_wrongBy_21 : decode cX9_wrongBy 21 = .ok (.ireturn, 1) := by decide +kernel
theorem dX9_rests_0 : decode cX9_rests 0 = .ok (.aload_n 0, 1) := by decide +kernel
theorem dX9_rests_1 : decode cX9_rests 1 = .ok (.iload_n 1, 1) := by decide +kernel
theorem dX9_rests_2 : decode cX9_rests 2 = .ok (.invokevirtual 113, 3) := by decide +kernel
theorem dX9_rests_5 : decode cX9_rests 5 = .ok (.ifCond .eq 13, 3) := by decide +kernel
theorem dX9_rests_8 : decode cX9_rests 8 = .ok (.iload_n 2, 1) := by decide +kernel
theorem dX9_rests_9 : decode cX9_rests 9 = .ok (.iconst 0, 1) := by decide +kernel
theorem dX9_rests_10 : decode cX9_rests 10 = .ok (.bipush 30, 2) := by decide +kernel
theorem dX9_rests_12 : decode cX9_rests 12 = .ok (.invokestatic 136, 3) := by decide +kernel
theorem dX9_rests_15 : decode cX9_rests 15 = .ok (.goto 4, 3) := by decide +kernel
theorem dX9_rests_18 : decode cX9_rests 18 = .ok (.iconst (-1), 1) := by decide +kernel
theorem dX9_rests_19 : decode cX9_rests 19 = .ok (.istore_n 3, 1) := by decide +kernel
theorem dX9_rests_20 : decode cX9_rests 20 = .ok (.iload_n 3, 1) := by decide +kernel
theorem dX9_rests_21 : decode cX9_rests 21 = .ok (.ifCond .eq 9, 3) := by decide +kernel
theorem dX9_rests_24 : decode cX9_rests 24 = .ok (.aload_n 0, 1) := by decide +kernel
theorem dX9_rests_25 : decode cX9_rests 25 = .ok (.iload_n 3, 1) := by decide +kernel
theorem dX9_rests_26 : decode cX9_rests 26 = .ok (.invokevirtual 36, 3) := by decide +kernel
theorem dX9_rests_29 : decode cX9_rests 29 = .ok (.ireturn, 1) := by decide +kernel
theorem dX9_rests_30 : decode cX9_rests 30 = .ok (.aload_n 0, 1) := by decide +kernel
theorem dX9_rests_31 : decode cX9_rests 31 = .ok (.getfield 9, 3) := by decide +kernel
theorem dX9_rests_34 : decode cX9_rests 34 = .ok (.iload_n 1, 1) := by decide +kernel
theorem dX9_rests_35 : decode cX9_rests 35 = .ok (.iconst 3, 1) := by decide +kernel
theorem dX9_rests_36 : decode cX9_rests 36 = .ok (.invokestatic 44, 3) := by decide +kernel
theorem dX9_rests_39 : decode cX9_rests 39 = .ok (.iaload, 1) := by decide +kernel
theorem dX9_rests_40 : decode cX9_rests 40 = .ok (.istore 4, 2) := by decide +kernel
theorem dX9_rests_42 : decode cX9_rests 42 = .ok (.aload_n 0, 1) := by decide +kernel
theorem dX9_rests_43 : decode cX9_rests 43 = .ok (.getfield 9, 3) := by decide +kernel
theorem dX9_rests_46 : decode cX9_rests 46 = .ok (.iload_n 1, 1) := by decide +kernel
theorem dX9_rests_47 : decode cX9_rests 47 = .ok (.iconst 3, 1) := by decide +kernel
theorem dX9_rests_48 : decode cX9_rests 48 = .ok (.invokestatic 44, 3) := by decide +kernel
theorem dX9_rests_51 : decode cX9_rests 51 = .ok (.iload_n 2, 1) := by decide +kernel
theorem dX9_rests_52 : decode cX9_rests 52 = .ok (.iastore, 1) := by decide +kernel
theorem dX9_rests_53 : decode cX9_rests 53 = .ok (.iload 4, 2) := by decide +kernel
theorem dX9_rests_55 : decode cX9_rests 55 = .ok (.ireturn, 1) := by decide +kernel
theorem dX9_turn_0 : decode cX9_turn 0 = .ok (.aload_n 0, 1) := by decide +kernel
theorem dX9_turn_1 : decode cX9_turn 1 = .ok (.iload_n 1, 1) := by decide +kernel
theorem dX9_turn_2 : decode cX9_turn 2 = .ok (.invokevirtual 113, 3) := by decide +kernel
theorem dX9_turn_5 : decode cX9_turn 5 = .ok (.ifCond .ne 7, 3) := by decide +kernel
theorem dX9_turn_8 : decode cX9_turn 8 = .ok (.iconst (-1), 1) := by decide +kernel
theorem dX9_turn_9 : decode cX9_turn 9 = .ok (.goto 24, 3) := by decide +kernel
theorem dX9_turn_12 : decode cX9_turn 12 = .ok (.iload_n 2, 1) := by decide +kernel
theorem dX9_turn_13 : decode cX9_turn 13 = .ok (.iconst 0, 1) := by decide +kernel
theorem dX9_turn_14 : decode cX9_turn 14 = .ok (.iconst 5, 1) := by decide +kernel
theorem dX9_turn_15 : decode cX9_turn 15 = .ok (.invokestatic 40, 3) := by decide +kernel
theorem dX9_turn_18 : decode cX9_turn 18 = .ok (.ifCond .ne 8, 3) := by decide +kernel
theorem dX9_turn_21 : decode cX9_turn 21 = .ok (.bipush (-2), 2) := by decide +kernel
theorem dX9_turn_23 : decode cX9_turn 23 = .ok (.goto 10, 3) := by decide +kernel
theorem dX9_turn_26 : decode cX9_turn 26 = .ok (.iload_n 3, 1) := by decide +kernel
theorem dX9_turn_27 : decode cX9_turn 27 = .ok (.iconst 0, 1) := by decide +kernel
theorem dX9_turn_28 : decode cX9_turn 28 = .ok (.bipush 9, 2) := by decide +kernel
theorem dX9_turn_30 : decode cX9_turn 30 = .ok (.invokestatic 136, 3) := by decide +kernel
theorem dX9_turn_33 : decode cX9_turn 33 = .ok (.istore 4, 2) := by decide +kernel
theorem dX9_turn_35 : decode cX9_turn 35 = .ok (.iload 4, 2) := by decide +kernel
theorem dX9_turn_37 : decode cX9_turn 37 = .ok (.ifCond .eq 10, 3) := by decide +kernel
theorem dX9_turn_40 : decode cX9_turn 40 = .ok (.aload_n 0, 1) := by decide +kernel
theorem dX9_turn_41 : decode cX9_turn 41 = .ok (.iload 4, 2) := by decide +kernel
theorem dX9_turn_43 : decode cX9_turn 43 = .ok (.invokevirtual 36, 3) := by decide +kernel
theorem dX9_turn_46 : decode cX9_turn 46 = .ok (.ireturn, 1) := by decide +kernel
theorem dX9_turn_47 : decode cX9_turn 47 = .ok (.bipush 10, 2) := by decide +kernel
theorem dX9_turn_49 : decode cX9_turn 49 = .ok (.aload_n 0, 1) := by decide +kernel
theorem dX9_turn_50 : decode cX9_turn 50 = .ok (.getfield 9, 3) := by decide +kernel
theorem dX9_turn_53 : decode cX9_turn 53 = .ok (.iload_n 1, 1) := by decide +kernel
theorem dX9_turn_54 : decode cX9_turn 54 = .ok (.iconst 0, 1) := by decide +kernel
theorem dX9_turn_55 : decode cX9_turn 55 = .ok (.invokestatic 44, 3) := by decide +kernel
theorem dX9_turn_58 : decode cX9_turn 58 = .ok (.iaload, 1) := by decide +kernel
theorem dX9_turn_59 : decode cX9_turn 59 = .ok (.imul, 1) := by decide +kernel
theorem dX9_turn_60 : decode cX9_turn 60 = .ok (.aload_n 0, 1) := by decide +kernel
theorem dX9_turn_61 : decode cX9_turn 61 = .ok (.getfield 9, 3) := by decide +kernel
theorem dX9_turn_64 : decode cX9_turn 64 = .ok (.iload_n 1, 1) := by decide +kernel
theorem dX9_turn_65 : decode cX9_turn 65 = .ok (.iconst 1, 1) := by decide +kernel
theorem dX9_turn_66 : decode cX9_turn 66 = .ok (.invokestatic 44, 3) := by decide +kernel
theorem dX9_turn_69 : decode cX9_turn 69 = .ok (.iaload, 1) := by decide +kernel
theorem dX9_turn_70 : decode cX9_turn 70 = .ok (.iadd, 1) := by decide +kernel
theorem dX9_turn_71 : decode cX9_turn 71 = .ok (.istore 5, 2) := by decide +kernel
theorem dX9_turn_73 : decode cX9_turn 73 = .ok (.aload_n 0, 1) := by decide +kernel
theorem dX9_turn_74 : decode cX9_turn 74 = .ok (.getfield 9, 3) := by decide +kernel
theorem dX9_turn_77 : decode cX9_turn 77 = .ok (.iload_n 1, 1) := by decide +kernel
theorem dX9_turn_78 : decode cX9_turn 78 = .ok (.iconst 0, 1) := by decide +kernel
theorem dX9_turn_79 : decode cX9_turn 79 = .ok (.invokestatic 44, 3) := by decide +kernel
theorem dX9_turn_82 : decode cX9_turn 82 = .ok (.iload_n 2, 1) := by decide +kernel
theorem dX9_turn_83 : decode cX9_turn 83 = .ok (.iastore, 1) := by decide +kernel
theorem dX9_turn_84 : decode cX9_turn 84 = .ok (.aload_n 0, 1) := by decide +kernel
theorem dX9_turn_85 : decode cX9_turn 85 = .ok (.getfield 9, 3) := by decide +kernel
theorem dX9_turn_88 : decode cX9_turn 88 = .ok (.iload_n 1, 1) := by decide +kernel
theorem dX9_turn_89 : decode cX9_turn 89 = .ok (.iconst 1, 1) := by decide +kernel
theorem dX9_turn_90 : decode cX9_turn 90 = .ok (.invokestatic 44, 3) := by decide +kernel
theorem dX9_turn_93 : decode cX9_turn 93 = .ok (.iload_n 3, 1) := by decide +kernel
theorem dX9_turn_94 : decode cX9_turn 94 = .ok (.iastore, 1) := by decide +kernel
theorem dX9_turn_95 : decode cX9_turn 95 = .ok (.iload 5, 2) := by decide +kernel
theorem dX9_turn_97 : decode cX9_turn 97 = .ok (.ireturn, 1) := by decide +kernel
theorem dX9_days_0 : decode cX9_days 0 = .ok (.iload_n 1, 1) := by decide +kernel
theorem dX9_days_1 : decode cX9_days 1 = .ok (.iconst 1, 1) := by decide +kernel
theorem dX9_days_2 : decode cX9_days 2 = .ok (.if_icmp .ge 10, 3) := by decide +kernel
theorem dX9_days_5 : decode cX9_days 5 = .ok (.aload_n 0, 1) := by decide +kernel
theorem dX9_days_6 : decode cX9_days 6 = .ok (.bipush (-4), 2) := by decide +kernel
theorem dX9_days_8 : decode cX9_days 8 = .ok (.invokevirtual 36, 3) := by decide +kernel
theorem dX9_days_11 : decode cX9_days 11 = .ok (.ireturn, 1) := by decide +kernel
theorem dX9_days_12 : decode cX9_days 12 = .ok (.iload_n 1, 1) := by decide +kernel
theorem dX9_days_13 : decode cX9_days 13 = .ok (.bipush 60, 2) := by decide +kernel
theorem dX9_days_15 : decode cX9_days 15 = .ok (.if_icmp .gt 17, 3) := by decide +kernel
theorem dX9_days_18 : decode cX9_days 18 = .ok (.aload_n 0, 1) := by decide +kernel
theorem dX9_days_19 : decode cX9_days 19 = .ok (.getfield 9, 3) := by decide +kernel
theorem dX9_days_22 : decode cX9_days 22 = .ok (.iconst 1, 1) := by decide +kernel
theorem dX9_days_23 : decode cX9_days 23 = .ok (.iaload, 1) := by decide +kernel
theorem dX9_days_24 : decode cX9_days 24 = .ok (.iload_n 1, 1) := by decide +kernel
theorem dX9_days_25 : decode cX9_days 25 = .ok (.iadd, 1) := by decide +kernel
theorem dX9_days_26 : decode cX9_days 26 = .ok (.sipush 999, 3) := by decide +kernel
theorem dX9_days_29 : decode cX9_days 29 = .ok (.if_icmp .le 10, 3) := by decide +kernel
theorem dX9_days_32 : decode cX9_days 32 = .ok (.aload_n 0, 1) := by decide +kernel
theorem dX9_days_33 : decode cX9_days 33 = .ok (.bipush (-6), 2) := by decide +kernel
theorem dX9_days_35 : decode cX9_days 35 = .ok (.invokevirtual 36, 3) := by decide +kernel
theorem dX9_days_38 : decode cX9_days 38 = .ok (.ireturn, 1) := by decide +kernel
theorem dX9_days_39 : decode cX9_days 39 = .ok (.aload_n 0, 1) := by decide +kernel
theorem dX9_days_40 : decode cX9_days 40 = .ok (.getfield 9, 3) := by decide +kernel
theorem dX9_days_43 : decode cX9_days 43 = .ok (.iload_n 1, 1) := by decide +kernel
theorem dX9_days_44 : decode cX9_days 44 = .ok (.invokestatic 123, 3) := by decide +kernel
theorem dX9_days_47 : decode cX9_days 47 = .ok (.aload_n 0, 1) := by decide +kernel
theorem dX9_days_48 : decode cX9_days 48 = .ok (.getfield 9, 3) := by decide +kernel
theorem dX9_days_51 : decode cX9_days 51 = .ok (.iconst 2, 1) := by decide +kernel
theorem dX9_days_52 : decode cX9_days 52 = .ok (.iaload, 1) := by decide +kernel
theorem dX9_days_53 : decode cX9_days 53 = .ok (.ireturn, 1) := by decide +kernel
theorem dX9_takes_0 : decode cX9_takes 0 = .ok (.aload_n 0, 1) := by decide +kernel
theorem dX9_takes_1 : decode cX9_takes 1 = .ok (.getfield 9, 3) := by decide +kernel
theorem dX9_takes_4 : decode cX9_takes 4 = .ok (.aload_n 0, 1) := by decide +kernel
theorem dX9_takes_5 : decode cX9_takes 5 = .ok (.getfield 13, 3) := by decide +kernel
theorem dX9_takes_8 : decode cX9_takes 8 = .ok (.invokestatic 129, 3) := by decide +kernel
theorem dX9_takes_11 : decode cX9_takes 11 = .ok (.aload_n 0, 1) := by decide +kernel
theorem dX9_takes_12 : decode cX9_takes 12 = .ok (.getfield 13, 3) := by decide +kernel
theorem dX9_takes_15 : decode cX9_takes 15 = .ok (.iload_n 1, 1) := by decide +kernel
theorem dX9_takes_16 : decode cX9_takes 16 = .ok (.invokestatic 123, 3) := by decide +kernel
theorem dX9_takes_19 : decode cX9_takes 19 = .ok (.return_, 1) := by decide +kernel
theorem dX9_workerThen_0 : decode cX9_workerThen 0 = .ok (.aload_n 0, 1) := by decide +kernel
theorem dX9_workerThen_1 : decode cX9_workerThen 1 = .ok (.iload_n 1, 1) := by decide +kernel
theorem dX9_workerThen_2 : decode cX9_workerThen 2 = .ok (.invokevirtual 113, 3) := by decide +kernel
theorem dX9_workerThen_5 : decode cX9_workerThen 5 = .ok (.ifCond .eq 13, 3) := by decide +kernel
theorem dX9_workerThen_8 : decode cX9_workerThen 8 = .ok (.iload_n 2, 1) := by decide +kernel
theorem dX9_workerThen_9 : decode cX9_workerThen 9 = .ok (.iconst 0, 1) := by decide +kernel
theorem dX9_workerThen_10 : decode cX9_workerThen 10 = .ok (.bipush 60, 2) := by decide +kernel
theorem dX9_workerThen_12 : decode cX9_workerThen 12 = .ok (.invokestatic 136, 3) := by decide +kernel
theorem dX9_workerThen_15 : decode cX9_workerThen 15 = .ok (.goto 4, 3) := by decide +kernel
theorem dX9_workerThen_18 : decode cX9_workerThen 18 = .ok (.iconst (-1), 1) := by decide +kernel
theorem dX9_workerThen_19 : decode cX9_workerThen 19 = .ok (.istore 4, 2) := by decide +kernel
theorem dX9_workerThen_21 : decode cX9_workerThen 21 = .ok (.iload 4, 2) := by decide +kernel
theorem dX9_workerThen_23 : decode cX9_workerThen 23 = .ok (.ifCond .ne 16, 3) := by decide +kernel
theorem dX9_workerThen_26 : decode cX9_workerThen 26 = .ok (.iload_n 3, 1) := by decide +kernel
theorem dX9_workerThen_27 : decode cX9_workerThen 27 = .ok (.iconst 0, 1) := by decide +kernel
theorem dX9_workerThen_28 : decode cX9_workerThen 28 = .ok (.iconst 2, 1) := by decide +kernel
theorem dX9_workerThen_29 : decode cX9_workerThen 29 = .ok (.invokestatic 40, 3) := by decide +kernel
theorem dX9_workerThen_32 : decode cX9_workerThen 32 = .ok (.ifCond .ne 7, 3) := by decide +kernel
theorem dX9_workerThen_35 : decode cX9_workerThen 35 = .ok (.bipush (-2), 2) := by decide +kernel
theorem dX9_workerThen_37 : decode cX9_workerThen 37 = .ok (.istore 4, 2) := by decide +kernel
theorem dX9_workerThen_39 : decode cX9_workerThen 39 = .ok (.iload 4, 2) := by decide +kernel
theorem dX9_workerThen_41 : decode cX9_workerThen 41 = .ok (.ifCond .eq 10, 3) := by decide +kernel
theorem dX9_workerThen_44 : decode cX9_workerThen 44 = .ok (.aload_n 0, 1) := by decide +kernel
theorem dX9_workerThen_45 : decode cX9_workerThen 45 = .ok (.iload 4, 2) := by decide +kernel
theorem dX9_workerThen_47 : decode cX9_workerThen 47 = .ok (.invokevirtual 36, 3) := by decide +kernel
theorem dX9_workerThen_50 : decode cX9_workerThen 50 = .ok (.ireturn, 1) := by decide +kernel
theorem dX9_workerThen_51 : decode cX9_workerThen 51 = .ok (.aload_n 0, 1) := by decide +kernel
theorem dX9_workerThen_52 : decode cX9_workerThen 52 = .ok (.iload_n 2, 1) := by decide +kernel
theorem dX9_workerThen_53 : decode cX9_workerThen 53 = .ok (.invokevirtual 140, 3) := by decide +kernel
theorem dX9_workerThen_56 : decode cX9_workerThen 56 = .ok (.aload_n 0, 1) := by decide +kernel
theorem dX9_workerThen_57 : decode cX9_workerThen 57 = .ok (.getfield 13, 3) := by decide +kernel
theorem dX9_workerThen_60 : decode cX9_workerThen 60 = .ok (.iload_n 1, 1) := by decide +kernel
theorem dX9_workerThen_61 : decode cX9_workerThen 61 = .ok (.iconst 2, 1) := by decide +kernel
theorem dX9_workerThen_62 : decode cX9_workerThen 62 = .ok (.iload_n 3, 1) := by decide +kernel
theorem dX9_workerThen_63 : decode cX9_workerThen 63 = .ok (.iadd, 1) := by decide +kernel
theorem dX9_workerThen_64 : decode cX9_workerThen 64 = .ok (.invokestatic 44, 3) := by decide +kernel
theorem dX9_workerThen_67 : decode cX9_workerThen 67 = .ok (.iaload, 1) := by decide +kernel
theorem dX9_workerThen_68 : decode cX9_workerThen 68 = .ok (.ireturn, 1) := by decide +kernel
theorem dX9_then_0 : decode cX9_then 0 = .ok (.iload_n 1, 1) := by decide +kernel
theorem dX9_then_1 : decode cX9_then 1 = .ok (.iconst 0, 1) := by decide +kernel
theorem dX9_then_2 : decode cX9_then 2 = .ok (.bipush 60, 2) := by decide +kernel
theorem dX9_then_4 : decode cX9_then 4 = .ok (.invokestatic 136, 3) := by decide +kernel
theorem dX9_then_7 : decode cX9_then 7 = .ok (.istore_n 3, 1) := by decide +kernel
theorem dX9_then_8 : decode cX9_then 8 = .ok (.iload_n 3, 1) := by decide +kernel
theorem dX9_then_9 : decode cX9_then 9 = .ok (.ifCond .ne 15, 3) := by decide +kernel
theorem dX9_then_12 : decode cX9_then 12 = .ok (.iload_n 2, 1) := by decide +kernel
theorem dX9_then_13 : decode cX9_then 13 = .ok (.iconst 0, 1) := by decide +kernel
theorem dX9_then_14 : decode cX9_then 14 = .ok (.iconst 1, 1) := by decide +kernel
theorem dX9_then_15 : decode cX9_then 15 = .ok (.invokestatic 40, 3) := by decide +kernel
theorem dX9_then_18 : decode cX9_then 18 = .ok (.ifCond .ne 6, 3) := by decide +kernel
theorem dX9_then_21 : decode cX9_then 21 = .ok (.bipush (-2), 2) := by decide +kernel
theorem dX9_then_23 : decode cX9_then 23 = .ok (.istore_n 3, 1) := by decide +kernel
theorem dX9_then_24 : decode cX9_then 24 = .ok (.iload_n 3, 1) := by decide +kernel
theorem dX9_then_25 : decode cX9_then 25 = .ok (.ifCond .eq 9, 3) := by decide +kernel
theorem dX9_then_28 : decode cX9_then 28 = .ok (.aload_n 0, 1) := by decide +kernel
theorem dX9_then_29 : decode cX9_then 29 = .ok (.iload_n 3, 1) := by decide +kernel
theorem dX9_then_30 : decode cX9_then 30 = .ok (.invokevirtual 36, 3) := by decide +kernel
theorem dX9_then_33 : decode cX9_then 33 = .ok (.ireturn, 1) := by decide +kernel
theorem dX9_then_34 : decode cX9_then 34 = .ok (.aload_n 0, 1) := by decide +kernel
theorem dX9_then_35 : decode cX9_then 35 = .ok (.iload_n 1, 1) := by decide +kernel
theorem dX9_then_36 : decode cX9_then 36 = .ok (.invokevirtual 140, 3) := by decide +kernel
theorem dX9_then_39 : decode cX9_then 39 = .ok (.iload_n 2, 1) := by decide +kernel
theorem dX9_then_40 : decode cX9_then 40 = .ok (.ifCond .ne 12, 3) := by decide +kernel
theorem dX9_then_43 : decode cX9_then 43 = .ok (.aload_n 0, 1) := by decide +kernel
theorem dX9_then_44 : decode cX9_then 44 = .ok (.getfield 13, 3) := by decide +kernel
theorem dX9_then_47 : decode cX9_then 47 = .ok (.iconst 2, 1) := by decide +kernel
theorem dX9_then_48 : decode cX9_then 48 = .ok (.iaload, 1) := by decide +kernel
theorem dX9_then_49 : decode cX9_then 49 = .ok (.goto 19, 3) := by decide +kernel
theorem dX9_then_52 : decode cX9_then 52 = .ok (.aload_n 0, 1) := by decide +kernel
theorem dX9_then_53 : decode cX9_then 53 = .ok (.getfield 13, 3) := by decide +kernel
theorem dX9_then_56 : decode cX9_then 56 = .ok (.aload_n 0, 1) := by decide +kernel
theorem dX9_then_57 : decode cX9_then 57 = .ok (.getfield 13, 3) := by decide +kernel
theorem dX9_then_60 : decode cX9_then 60 = .ok (.iconst 1, 1) := by decide +kernel
theorem dX9_then_61 : decode cX9_then 61 = .ok (.iaload, 1) := by decide +kernel
theorem dX9_then_62 : decode cX9_then 62 = .ok (.bipush 7, 2) := by decide +kernel
theorem dX9_then_64 : decode cX9_then 64 = .ok (.irem, 1) := by decide +kernel
theorem dX9_then_65 : decode cX9_then 65 = .ok (.invokestatic 144, 3) := by decide +kernel
theorem dX9_then_68 : decode cX9_then 68 = .ok (.ireturn, 1) := by decide +kernel
theorem dX9_fallsOf_0 : decode cX9_fallsOf 0 = .ok (.aload_n 0, 1) := by decide +kernel
theorem dX9_fallsOf_1 : decode cX9_fallsOf 1 = .ok (.getfield 9, 3) := by decide +kernel
theorem dX9_fallsOf_4 : decode cX9_fallsOf 4 = .ok (.aload_n 0, 1) := by decide +kernel
theorem dX9_fallsOf_5 : decode cX9_fallsOf 5 = .ok (.getfield 13, 3) := by decide +kernel
theorem dX9_fallsOf_8 : decode cX9_fallsOf 8 = .ok (.invokestatic 129, 3) := by decide +kernel
theorem dX9_fallsOf_11 : decode cX9_fallsOf 11 = .ok (.iconst 0, 1) := by decide +kernel
theorem dX9_fallsOf_12 : decode cX9_fallsOf 12 = .ok (.istore_n 2, 1) := by decide +kernel
theorem dX9_fallsOf_13 : decode cX9_fallsOf 13 = .ok (.iload_n 2, 1) := by decide +kernel
theorem dX9_fallsOf_14 : decode cX9_fallsOf 14 = .ok (.bipush 60, 2) := by decide +kernel
theorem dX9_fallsOf_16 : decode cX9_fallsOf 16 = .ok (.if_icmp .gt 34, 3) := by decide +kernel
theorem dX9_fallsOf_19 : decode cX9_fallsOf 19 = .ok (.aload_n 0, 1) := by decide +kernel
theorem dX9_fallsOf_20 : decode cX9_fallsOf 20 = .ok (.getfield 13, 3) := by decide +kernel
theorem dX9_fallsOf_23 : decode cX9_fallsOf 23 = .ok (.iload_n 1, 1) := by decide +kernel
theorem dX9_fallsOf_24 : decode cX9_fallsOf 24 = .ok (.iconst 3, 1) := by decide +kernel
theorem dX9_fallsOf_25 : decode cX9_fallsOf 25 = .ok (.invokestatic 44, 3) := by decide +kernel
theorem dX9_fallsOf_28 : decode cX9_fallsOf 28 = .ok (.iaload, 1) := by decide +kernel
theorem dX9_fallsOf_29 : decode cX9_fallsOf 29 = .ok (.bipush 20, 2) := by decide +kernel
theorem dX9_fallsOf_31 : decode cX9_fallsOf 31 = .ok (.if_icmp .lt 5, 3) := by decide +kernel
theorem dX9_fallsOf_34 : decode cX9_fallsOf 34 = .ok (.iload_n 2, 1) := by decide +kernel
theorem dX9_fallsOf_35 : decode cX9_fallsOf 35 = .ok (.ireturn, 1) := by decide +kernel
theorem dX9_fallsOf_36 : decode cX9_fallsOf 36 = .ok (.aload_n 0, 1) := by decide +kernel
theorem dX9_fallsOf_37 : decode cX9_fallsOf 37 = .ok (.getfield 13, 3) := by decide +kernel
theorem dX9_fallsOf_40 : decode cX9_fallsOf 40 = .ok (.iconst 0, 1) := by decide +kernel
theorem dX9_fallsOf_41 : decode cX9_fallsOf 41 = .ok (.invokestatic 89, 3) := by decide +kernel
theorem dX9_fallsOf_44 : decode cX9_fallsOf 44 = .ok (.iinc 2 1, 3) := by decide +kernel
theorem dX9_fallsOf_47 : decode cX9_fallsOf 47 = .ok (.goto (-34), 3) := by decide +kernel
theorem dX9_fallsOf_50 : decode cX9_fallsOf 50 = .ok (.bipush (-9), 2) := by decide +kernel
theorem dX9_fallsOf_52 : decode cX9_fallsOf 52 = .ok (.ireturn, 1) := by decide +kernel
theorem dX9_firstFalls_0 : decode cX9_firstFalls 0 = .ok (.bipush (-9), 2) := by decide +kernel
theorem dX9_firstFalls_2 : decode cX9_firstFalls 2 = .ok (.istore_n 1, 1) := by decide +kernel
theorem dX9_firstFalls_3 : decode cX9_firstFalls 3 = .ok (.ldc 147, 2) := by decide +kernel
theorem dX9_firstFalls_5 : decode cX9_firstFalls 5 = .ok (.istore_n 2, 1) := by decide +kernel
theorem dX9_firstFalls_6 : decode cX9_firstFalls 6 = .ok (.iconst 0, 1) := by decide +kernel
theorem dX9_firstFalls_7 : decode cX9_firstFalls 7 = .ok (.istore_n 3, 1) := by decide +kernel
theorem dX9_firstFalls_8 : decode cX9_firstFalls 8 = .ok (.iload_n 3, 1) := by decide +kernel
theorem dX9_firstFalls_9 : decode cX9_firstFalls 9 = .ok (.aload_n 0, 1) := by decide +kernel
theorem dX9_firstFalls_10 : decode cX9_firstFalls 10 = .ok (.getfield 9, 3) := by decide +kernel
theorem dX9_firstFalls_13 : decode cX9_firstFalls 13 = .ok (.iconst 0, 1) := by decide +kernel
theorem dX9_firstFalls_14 : decode cX9_firstFalls 14 = .ok (.iaload, 1) := by decide +kernel
theorem dX9_firstFalls_15 : decode cX9_firstFalls 15 = .ok (.if_icmp .ge 35, 3) := by decide +kernel
theorem dX9_firstFalls_18 : decode cX9_firstFalls 18 = .ok (.aload_n 0, 1) := by decide +kernel
theorem dX9_firstFalls_19 : decode cX9_firstFalls 19 = .ok (.iload_n 3, 1) := by decide +kernel
theorem dX9_firstFalls_20 : decode cX9_firstFalls 20 = .ok (.invokevirtual 148, 3) := by decide +kernel
theorem dX9_firstFalls_23 : decode cX9_firstFalls 23 = .ok (.istore 4, 2) := by decide +kernel
theorem dX9_firstFalls_25 : decode cX9_firstFalls 25 = .ok (.iload 4, 2) := by decide +kernel
theorem dX9_firstFalls_27 : decode cX9_firstFalls 27 = .ok (.ifCond .lt 17, 3) := by decide +kernel
theorem dX9_firstFalls_30 : decode cX9_firstFalls 30 = .ok (.iload 4, 2) := by decide +kernel
theorem dX9_firstFalls_32 : decode cX9_firstFalls 32 = .ok (.iload_n 2, 1) := by decide +kernel
theorem dX9_firstFalls_33 : decode cX9_firstFalls 33 = .ok (.if_icmp .lt 6, 3) := by decide +kernel
theorem dX9_firstFalls_36 : decode cX9_firstFalls 36 = .ok (.goto 8, 3) := by decide +kernel
theorem dX9_firstFalls_39 : decode cX9_firstFalls 39 = .ok (.iload_n 3, 1) := by decide +kernel
theorem dX9_firstFalls_40 : decode cX9_firstFalls 40 = .ok (.istore_n 1, 1) := by decide +kernel
theorem dX9_firstFalls_41 : decode cX9_firstFalls 41 = .ok (.iload 4, 2) := by decide +kernel
theorem dX9_firstFalls_43 : decode cX9_firstFalls 43 = .ok (.istore_n 2, 1) := by decide +kernel
theorem dX9_firstFalls_44 : decode cX9_firstFalls 44 = .ok (.iinc 3 1, 3) := by decide +kernel
theorem dX9_firstFalls_47 : decode cX9_firstFalls 47 = .ok (.goto (-39), 3) := by decide +kernel
theorem dX9_firstFalls_50 : decode cX9_firstFalls 50 = .ok (.iload_n 1, 1) := by decide +kernel
theorem dX9_firstFalls_51 : decode cX9_firstFalls 51 = .ok (.ireturn, 1) := by decide +kernel
theorem dX9_falls_0 : decode cX9_falls 0 = .ok (.iload_n 1, 1) := by decide +kernel
theorem dX9_falls_1 : decode cX9_falls 1 = .ok (.iconst (-1), 1) := by decide +kernel
theorem dX9_falls_2 : decode cX9_falls 2 = .ok (.if_icmp .ne 10, 3) := by decide +kernel
theorem dX9_falls_5 : decode cX9_falls 5 = .ok (.aload_n 0, 1) := by decide +kernel
theorem dX9_falls_6 : decode cX9_falls 6 = .ok (.invokevirtual 151, 3) := by decide +kernel
theorem dX9_falls_9 : decode cX9_falls 9 = .ok (.goto 24, 3) := by decide +kernel
theorem dX9_falls_12 : decode cX9_falls 12 = .ok (.aload_n 0, 1) := by decide +kernel
theorem dX9_falls_13 : decode cX9_falls 13 = .ok (.iload_n 1, 1) := by decide +kernel
theorem dX9_falls_14 : decode cX9_falls 14 = .ok (.invokevirtual 113, 3) := by decide +kernel
theorem dX9_falls_17 : decode cX9_falls 17 = .ok (.ifCond .eq 11, 3) := by decide +kernel
theorem dX9_falls_20 : decode cX9_falls 20 = .ok (.aload_n 0, 1) := by decide +kernel
theorem dX9_falls_21 : decode cX9_falls 21 = .ok (.iload_n 1, 1) := by decide +kernel
theorem dX9_falls_22 : decode cX9_falls 22 = .ok (.invokevirtual 148, 3) := by decide +kernel
theorem dX9_falls_25 : decode cX9_falls 25 = .ok (.goto 8, 3) := by decide +kernel
theorem dX9_falls_28 : decode cX9_falls 28 = .ok (.aload_n 0, 1) := by decide +kernel
theorem dX9_falls_29 : decode cX9_falls 29 = .ok (.iconst (-1), 1) := by decide +kernel
theorem dX9_falls_30 : decode cX9_falls 30 = .ok (.invokevirtual 36, 3) := by decide +kernel
theorem dX9_falls_33 : decode cX9_falls 33 = .ok (.ireturn, 1) := by decide +kernel
theorem dX9_isPaidDay_0 : decode cX9_isPaidDay 0 = .ok (.aload_n 0, 1) := by decide +kernel
theorem dX9_isPaidDay_1 : decode cX9_isPaidDay 1 = .ok (.getfield 13, 3) := by decide +kernel
theorem dX9_isPaidDay_4 : decode cX9_isPaidDay 4 = .ok (.invokestatic 154, 3) := by decide +kernel
theorem dX9_isPaidDay_7 : decode cX9_isPaidDay 7 = .ok (.istore_n 1, 1) := by decide +kernel
theorem dX9_isPaidDay_8 : decode cX9_isPaidDay 8 = .ok (.aload_n 0, 1) := by decide +kernel
theorem dX9_isPaidDay_9 : decode cX9_isPaidDay 9 = .ok (.getfield 13, 3) := by decide +kernel
theorem dX9_isPaidDay_12 : decode cX9_isPaidDay 12 = .ok (.iconst 2, 1) := by decide +kernel
theorem dX9_isPaidDay_13 : decode cX9_isPaidDay 13 = .ok (.iaload, 1) := by decide +kernel
theorem dX9_isPaidDay_14 : decode cX9_isPaidDay 14 = .ok (.istore_n 2, 1) := by decide +kernel
theorem dX9_isPaidDay_15 : decode cX9_isPaidDay 15 = .ok (.aload_n 0, 1) := by decide +kernel
theorem dX9_isPaidDay_16 : decode cX9_isPaidDay 16 = .ok (.getfield 13, 3) := by decide +kernel
theorem dX9_isPaidDay_19 : decode cX9_isPaidDay 19 = .ok (.iconst 0, 1) := by decide +kernel
theorem dX9_isPaidDay_20 : decode cX9_isPaidDay 20 = .ok (.invokestatic 89, 3) := by decide +kernel
theorem dX9_isPaidDay_23 : decode cX9_isPaidDay 23 = .ok (.aload_n 0, 1) := by decide +kernel
theorem dX9_isPaidDay_24 : decode cX9_isPaidDay 24 = .ok (.getfield 13, 3) := by decide +kernel
theorem dX9_isPaidDay_27 : decode cX9_isPaidDay 27 = .ok (.iconst 2, 1) := by decide +kernel
theorem dX9_isPaidDay_28 : decode cX9_isPaidDay 28 = .ok (.iaload, 1) := by decide +kernel
theorem dX9_isPaidDay_29 : decode cX9_isPaidDay 29 = .ok (.iload_n 2, 1) := by decide +kernel
theorem dX9_isPaidDay_30 : decode cX9_isPaidDay 30 = .ok (.if_icmp .ne 14, 3) := by decide +kernel
theorem dX9_isPaidDay_33 : decode cX9_isPaidDay 33 = .ok (.aload_n 0, 1) := by decide +kernel
theorem dX9_isPaidDay_34 : decode cX9_isPaidDay 34 = .ok (.getfield 13, 3) := by decide +kernel
theorem dX9_isPaidDay_37 : decode cX9_isPaidDay 37 = .ok (.invokestatic 154, 3) := by decide +kernel
theorem dX9_isPaidDay_40 : decode cX9_isPaidDay 40 = .ok (.iload_n 1, 1) := by decide +kernel
theorem dX9_isPaidDay_41 : decode cX9_isPaidDay 41 = .ok (.if_icmp .eq 7, 3) := by decide +kernel
theorem dX9_isPaidDay_44 : decode cX9_isPaidDay 44 = .ok (.iconst 1, 1) := by decide +kernel
theorem dX9_isPaidDay_45 : decode cX9_isPaidDay 45 = .ok (.goto 4, 3) := by decide +kernel
theorem dX9_isPaidDay_48 : decode cX9_isPaidDay 48 = .ok (.iconst 0, 1) := by decide +kernel
theorem dX9_isPaidDay_49 : decode cX9_isPaidDay 49 = .ok (.ireturn, 1) := by decide +kernel
theorem dX9_sumOff_0 : decode cX9_sumOff 0 = .ok (.iconst 0, 1) := by decide +kernel
theorem dX9_sumOff_1 : decode cX9_sumOff 1 = .ok (.istore_n 1, 1) := by decide +kernel
theorem dX9_sumOff_2 : decode cX9_sumOff 2 = .ok (.iconst 0, 1) := by decide +kernel
theorem dX9_sumOff_3 : decode cX9_sumOff 3 = .ok (.istore_n 2, 1) := by decide +kernel
theorem dX9_sumOff_4 : decode cX9_sumOff 4 = .ok (.iload_n 2, 1) := by decide +kernel
theorem dX9_sumOff_5 : decode cX9_sumOff 5 = .ok (.aload_n 0, 1) := by decide +kernel
theorem dX9_sumOff_6 : decode cX9_sumOff 6 = .ok (.iconst 0, 1) := by decide +kernel
theorem dX9_sumOff_7 : decode cX9_sumOff 7 = .ok (.iaload, 1) := by decide +kernel
theorem dX9_sumOff_8 : decode cX9_sumOff 8 = .ok (.if_icmp .ge 23, 3) := by decide +kernel
theorem dX9_sumOff_11 : decode cX9_sumOff 11 = .ok (.sipush 131, 3) := by decide +kernel
theorem dX9_sumOff_14 : decode cX9_sumOff 14 = .ok (.iload_n 1, 1) := by decide +kernel
theorem dX9_sumOff_15 : decode cX9_sumOff 15 = .ok (.imul, 1) := by decide +kernel
theorem dX9_sumOff_16 : decode cX9_sumOff 16 = .ok (.aload_n 0, 1) := by decide +kernel
theorem dX9_sumOff_17 : decode cX9_sumOff 17 = .ok (.iload_n 2, 1) := by decide +kernel
theorem dX9_sumOff_18 : decode cX9_sumOff 18 = .ok (.iconst 2, 1) := by decide +kernel
theorem dX9_sumOff_19 : decode cX9_sumOff 19 = .ok (.invokestatic 44, 3) := by decide +kernel
theorem dX9_sumOff_22 : decode cX9_sumOff 22 = .ok (.iaload, 1) := by decide +kernel
theorem dX9_sumOff_23 : decode cX9_sumOff 23 = .ok (.iadd, 1) := by decide +kernel
theorem dX9_sumOff_24 : decode cX9_sumOff 24 = .ok (.istore_n 1, 1) := by decide +kernel
theorem dX9_sumOff_25 : decode cX9_sumOff 25 = .ok (.iinc 2 1, 3) := by decide +kernel
theorem dX9_sumOff_28 : decode cX9_sumOff 28 = .ok (.goto (-24), 3) := by decide +kernel
theorem dX9_sumOff_31 : decode cX9_sumOff 31 = .ok (.iload_n 1, 1) := by decide +kernel
theorem dX9_sumOff_32 : decode cX9_sumOff 32 = .ok (.ireturn, 1) := by decide +kernel
theorem dX9_still_0 : decode cX9_still 0 = .ok (.aload_n 0, 1) := by decide +kernel
theorem dX9_still_1 : decode cX9_still 1 = .ok (.getfield 9, 3) := by decide +kernel
theorem dX9_still_4 : decode cX9_still 4 = .ok (.aload_n 0, 1) := by decide +kernel
theorem dX9_still_5 : decode cX9_still 5 = .ok (.getfield 13, 3) := by decide +kernel
theorem dX9_still_8 : decode cX9_still 8 = .ok (.invokestatic 129, 3) := by decide +kernel
theorem dX9_still_11 : decode cX9_still 11 = .ok (.iconst 0, 1) := by decide +kernel
theorem dX9_still_12 : decode cX9_still 12 = .ok (.istore_n 1, 1) := by decide +kernel
theorem dX9_still_13 : decode cX9_still 13 = .ok (.iconst 0, 1) := by decide +kernel
theorem dX9_still_14 : decode cX9_still 14 = .ok (.istore_n 2, 1) := by decide +kernel
theorem dX9_still_15 : decode cX9_still 15 = .ok (.iload_n 2, 1) := by decide +kernel
theorem dX9_still_16 : decode cX9_still 16 = .ok (.bipush 74, 2) := by decide +kernel
theorem dX9_still_18 : decode cX9_still 18 = .ok (.if_icmp .ge 35, 3) := by decide +kernel
theorem dX9_still_21 : decode cX9_still 21 = .ok (.aload_n 0, 1) := by decide +kernel
theorem dX9_still_22 : decode cX9_still 22 = .ok (.invokevirtual 158, 3) := by decide +kernel
theorem dX9_still_25 : decode cX9_still 25 = .ok (.ifCond .eq 7, 3) := by decide +kernel
theorem dX9_still_28 : decode cX9_still 28 = .ok (.iconst 0, 1) := by decide +kernel
theorem dX9_still_29 : decode cX9_still 29 = .ok (.goto 6, 3) := by decide +kernel
theorem dX9_still_32 : decode cX9_still 32 = .ok (.iload_n 1, 1) := by decide +kernel
theorem dX9_still_33 : decode cX9_still 33 = .ok (.iconst 1, 1) := by decide +kernel
theorem dX9_still_34 : decode cX9_still 34 = .ok (.iadd, 1) := by decide +kernel
theorem dX9_still_35 : decode cX9_still 35 = .ok (.istore_n 1, 1) := by decide +kernel
theorem dX9_still_36 : decode cX9_still 36 = .ok (.iload_n 1, 1) := by decide +kernel
theorem dX9_still_37 : decode cX9_still 37 = .ok (.bipush 14, 2) := by decide +kernel
theorem dX9_still_39 : decode cX9_still 39 = .ok (.if_icmp .ne 8, 3) := by decide +kernel
theorem dX9_still_42 : decode cX9_still 42 = .ok (.iload_n 2, 1) := by decide +kernel
theorem dX9_still_43 : decode cX9_still 43 = .ok (.bipush 13, 2) := by decide +kernel
theorem dX9_still_45 : decode cX9_still 45 = .ok (.isub, 1) := by decide +kernel
theorem dX9_still_46 : decode cX9_still 46 = .ok (.ireturn, 1) := by decide +kernel
theorem dX9_still_47 : decode cX9_still 47 = .ok (.iinc 2 1, 3) := by decide +kernel
theorem dX9_still_50 : decode cX9_still 50 = .ok (.goto (-35), 3) := by decide +kernel
theorem dX9_still_53 : decode cX9_still 53 = .ok (.bipush (-9), 2) := by decide +kernel
theorem dX9_still_55 : decode cX9_still 55 = .ok (.ireturn, 1) := by decide +kernel
theorem dX9_offOn_0 : decode cX9_offOn 0 = .ok (.aload_n 0, 1) := by decide +kernel
theorem dX9_offOn_1 : decode cX9_offOn 1 = .ok (.getfield 9, 3) := by decide +kernel
theorem dX9_offOn_4 : decode cX9_offOn 4 = .ok (.iconst 0, 1) := by decide +kernel
theorem dX9_offOn_5 : decode cX9_offOn 5 = .ok (.iaload, 1) := by decide +kernel
theorem dX9_offOn_6 : decode cX9_offOn 6 = .ok (.aload_n 0, 1) := by decide +kernel
theorem dX9_offOn_7 : decode cX9_offOn 7 = .ok (.getfield 9, 3) := by decide +kernel
theorem dX9_offOn_10 : decode cX9_offOn 10 = .ok (.iload_n 1, 1) := by decide +kernel
theorem dX9_offOn_11 : decode cX9_offOn 11 = .ok (.invokestatic 144, 3) := by decide +kernel
theorem dX9_offOn_14 : decode cX9_offOn 14 = .ok (.invokestatic 52, 3) := by decide +kernel
theorem dX9_offOn_17 : decode cX9_offOn 17 = .ok (.isub, 1) := by decide +kernel
theorem dX9_offOn_18 : decode cX9_offOn 18 = .ok (.ireturn, 1) := by decide +kernel
theorem dX9_strike_0 : decode cX9_strike 0 = .ok (.iload_n 1, 1) := by decide +kernel
theorem dX9_strike_1 : decode cX9_strike 1 = .ok (.iconst 0, 1) := by decide +kernel
theorem dX9_strike_2 : decode cX9_strike 2 = .ok (.iconst 3, 1) := by decide +kernel
theorem dX9_strike_3 : decode cX9_strike 3 = .ok (.invokestatic 40, 3) := by decide +kernel
theorem dX9_strike_6 : decode cX9_strike 6 = .ok (.ifCond .ne 10, 3) := by decide +kernel
theorem dX9_strike_9 : decode cX9_strike 9 = .ok (.aload_n 0, 1) := by decide +kernel
theorem dX9_strike_10 : decode cX9_strike 10 = .ok (.bipush (-2), 2) := by decide +kernel
theorem dX9_strike_12 : decode cX9_strike 12 = .ok (.invokevirtual 36, 3) := by decide +kernel
theorem dX9_strike_15 : decode cX9_strike 15 = .ok (.ireturn, 1) := by decide +kernel
theorem dX9_strike_16 : decode cX9_strike 16 = .ok (.iconst 0, 1) := by decide +kernel
theorem dX9_strike_17 : decode cX9_strike 17 = .ok (.istore_n 2, 1) := by decide +kernel
theorem dX9_strike_18 : decode cX9_strike 18 = .ok (.iconst 0, 1) := by decide +kernel
theorem dX9_strike_19 : decode cX9_strike 19 = .ok (.istore_n 3, 1) := by decide +kernel
theorem dX9_strike_20 : decode cX9_strike 20 = .ok (.iconst 0, 1) := by decide +kernel
theorem dX9_strike_21 : decode cX9_strike 21 = .ok (.istore 4, 2) := by decide +kernel
theorem dX9_strike_23 : decode cX9_strike 23 = .ok (.iload 4, 2) := by decide +kernel
theorem dX9_strike_25 : decode cX9_strike 25 = .ok (.bipush 7, 2) := by decide +kernel
theorem dX9_strike_27 : decode cX9_strike 27 = .ok (.if_icmp .ge 49, 3) := by decide +kernel
theorem dX9_strike_30 : decode cX9_strike 30 = .ok (.aload_n 0, 1) := by decide +kernel
theorem dX9_strike_31 : decode cX9_strike 31 = .ok (.iload 4, 2) := by decide +kernel
theorem dX9_strike_33 : decode cX9_strike 33 = .ok (.invokevirtual 161, 3) := by decide +kernel
theorem dX9_strike_36 : decode cX9_strike 36 = .ok (.aload_n 0, 1) := by decide +kernel
theorem dX9_strike_37 : decode cX9_strike 37 = .ok (.iload_n 2, 1) := by decide +kernel
theorem dX9_strike_38 : decode cX9_strike 38 = .ok (.invokevirtual 161, 3) := by decide +kernel
theorem dX9_strike_41 : decode cX9_strike 41 = .ok (.if_icmp .le 6, 3) := by decide +kernel
theorem dX9_strike_44 : decode cX9_strike 44 = .ok (.iload 4, 2) := by decide +kernel
theorem dX9_strike_46 : decode cX9_strike 46 = .ok (.istore_n 2, 1) := by decide +kernel
theorem dX9_strike_47 : decode cX9_strike 47 = .ok (.iload_n 3, 1) := by decide +kernel
theorem dX9_strike_48 : decode cX9_strike 48 = .ok (.aload_n 0, 1) := by decide +kernel
theorem dX9_strike_49 : decode cX9_strike 49 = .ok (.getfield 9, 3) := by decide +kernel
theorem dX9_strike_52 : decode cX9_strike 52 = .ok (.iload 4, 2) := by decide +kernel
theorem dX9_strike_54 : decode cX9_strike 54 = .ok (.invokestatic 144, 3) := by decide +kernel
theorem dX9_strike_57 : decode cX9_strike 57 = .ok (.ifCond .ne 10, 3) := by decide +kernel
theorem dX9_strike_60 : decode cX9_strike 60 = .ok (.iconst 1, 1) := by decide +kernel
theorem dX9_strike_61 : decode cX9_strike 61 = .ok (.iload 4, 2) := by decide +kernel
theorem dX9_strike_63 : decode cX9_strike 63 = .ok (.ishl, 1) := by decide +kernel
theorem dX9_strike_64 : decode cX9_strike 64 = .ok (.goto 4, 3) := by decide +kernel
theorem dX9_strike_67 : decode cX9_strike 67 = .ok (.iconst 0, 1) := by decide +kernel
theorem dX9_strike_68 : decode cX9_strike 68 = .ok (.ior, 1) := by decide +kernel
theorem dX9_strike_69 : decode cX9_strike 69 = .ok (.istore_n 3, 1) := by decide +kernel
theorem dX9_strike_70 : decode cX9_strike 70 = .ok (.iinc 4 1, 3) := by decide +kernel
theorem dX9_strike_73 : decode cX9_strike 73 = .ok (.goto (-50), 3) := by decide +kernel
theorem dX9_strike_76 : decode cX9_strike 76 = .ok (.bipush (-9), 2) := by decide +kernel
theorem dX9_strike_78 : decode cX9_strike 78 = .ok (.istore 4, 2) := by decide +kernel
theorem dX9_strike_80 : decode cX9_strike 80 = .ok (.iconst 0, 1) := by decide +kernel
theorem dX9_strike_81 : decode cX9_strike 81 = .ok (.istore 5, 2) := by decide +kernel
theorem dX9_strike_83 : decode cX9_strike 83 = .ok (.iload 5, 2) := by decide +kernel
theorem dX9_strike_85 : decode cX9_strike 85 = .ok (.aload_n 0, 1) := by decide +kernel
theorem dX9_strike_86 : decode cX9_strike 86 = .ok (.getfield 9, 3) := by decide +kernel
theorem dX9_strike_89 : decode cX9_strike 89 = .ok (.iconst 0, 1) := by decide +kernel
theorem dX9_strike_90 : decode cX9_strike 90 = .ok (.iaload, 1) := by decide +kernel
theorem dX9_strike_91 : decode cX9_strike 91 = .ok (.if_icmp .ge 49, 3) := by decide +kernel
theorem dX9_strike_94 : decode cX9_strike 94 = .ok (.iload 4, 2) := by decide +kernel
theorem dX9_strike_96 : decode cX9_strike 96 = .ok (.ifCond .lt 34, 3) := by decide +kernel
theorem dX9_strike_99 : decode cX9_strike 99 = .ok (.aload_n 0, 1) := by decide +kernel
theorem dX9_strike_100 : decode cX9_strike 100 = .ok (.getfield 9, 3) := by decide +kernel
theorem dX9_strike_103 : decode cX9_strike 103 = .ok (.iload 5, 2) := by decide +kernel
theorem dX9_strike_105 : decode cX9_strike 105 = .ok (.iconst 2, 1) := by decide +kernel
theorem dX9_strike_106 : decode cX9_strike 106 = .ok (.invokestatic 44, 3) := by decide +kernel
theorem dX9_strike_109 : decode cX9_strike 109 = .ok (.iaload, 1) := by decide +kernel
theorem dX9_strike_110 : decode cX9_strike 110 = .ok (.invokestatic 52, 3) := by decide +kernel
theorem dX9_strike_113 : decode cX9_strike 113 = .ok (.aload_n 0, 1) := by decide +kernel
theorem dX9_strike_114 : decode cX9_strike 114 = .ok (.getfield 9, 3) := by decide +kernel
theorem dX9_strike_117 : decode cX9_strike 117 = .ok (.iload 4, 2) := by decide +kernel
theorem dX9_strike_119 : decode cX9_strike 119 = .ok (.iconst 2, 1) := by decide +kernel
theorem dX9_strike_120 : decode cX9_strike 120 = .ok (.invokestatic 44, 3) := by decide +kernel
theorem dX9_strike_123 : decode cX9_strike 123 = .ok (.iaload, 1) := by decide +kernel
theorem dX9_strike_124 : decode cX9_strike 124 = .ok (.invokestatic 52, 3) := by decide +kernel
theorem dX9_strike_127 : decode cX9_strike 127 = .ok (.if_icmp .le 7, 3) := by decide +kernel
theorem dX9_strike_130 : decode cX9_strike 130 = .ok (.iload 5, 2) := by decide +kernel
theorem dX9_strike_132 : decode cX9_strike 132 = .ok (.istore 4, 2) := by decide +kernel
theorem dX9_strike_134 : decode cX9_strike 134 = .ok (.iinc 5 1, 3) := by decide +kernel
theorem dX9_strike_137 : decode cX9_strike 137 = .ok (.goto (-54), 3) := by decide +kernel
theorem dX9_strike_140 : decode cX9_strike 140 = .ok (.iload_n 1, 1) := by decide +kernel
theorem dX9_strike_141 : decode cX9_strike 141 = .ok (.ifCond .ne 7, 3) := by decide +kernel
theorem dX9_strike_144 : decode cX9_strike 144 = .ok (.iload_n 2, 1) := by decide +kernel
theorem dX9_strike_145 : decode cX9_strike 145 = .ok (.goto 27, 3) := by decide +kernel
theorem dX9_strike_148 : decode cX9_strike 148 = .ok (.iload_n 1, 1) := by decide +kernel
theorem dX9_strike_149 : decode cX9_strike 149 = .ok (.iconst 1, 1) := by decide +kernel
theorem dX9_strike_150 : decode cX9_strike 150 = .ok (.if_icmp .ne 11, 3) := by decide +kernel
theorem dX9_strike_153 : decode cX9_strike 153 = .ok (.aload_n 0, 1) := by decide +kernel
theorem dX9_strike_154 : decode cX9_strike 154 = .ok (.iload_n 2, 1) := by decide +kernel
theorem dX9_strike_155 : decode cX9_strike 155 = .ok (.invokevirtual 161, 3) := by decide +kernel
theorem dX9_strike_158 : decode cX9_strike 158 = .ok (.goto 14, 3) := by decide +kernel
theorem dX9_strike_161 : decode cX9_strike 161 = .ok (.iload_n 1, 1) := by decide +kernel
theorem dX9_strike_162 : decode cX9_strike 162 = .ok (.iconst 2, 1) := by decide +kernel
theorem dX9_strike_163 : decode cX9_strike 163 = .ok (.if_icmp .ne 7, 3) := by decide +kernel
theorem dX9_strike_166 : decode cX9_strike 166 = .ok (.iload_n 3, 1) := by decide +kernel
theorem dX9_strike_167 : decode cX9_strike 167 = .ok (.goto 5, 3) := by decide +kernel
theorem dX9_strike_170 : decode cX9_strike 170 = .ok (.iload 4, 2) := by decide +kernel
theorem dX9_strike_172 : decode cX9_strike 172 = .ok (.ireturn, 1) := by decide +kernel
theorem dX9_bothIn_0 : decode cX9_bothIn 0 = .ok (.bipush 127, 2) := by decide +kernel
theorem dX9_bothIn_2 : decode cX9_bothIn 2 = .ok (.aload_n 0, 1) := by decide +kernel
theorem dX9_bothIn_3 : decode cX9_bothIn 3 = .ok (.getfield 9, 3) := by decide +kernel
theorem dX9_bothIn_6 : decode cX9_bothIn 6 = .ok (.iload_n 1, 1) := by decide +kernel
theorem dX9_bothIn_7 : decode cX9_bothIn 7 = .ok (.iconst 2, 1) := by decide +kernel
theorem dX9_bothIn_8 : decode cX9_bothIn 8 = .ok (.invokestatic 44, 3) := by decide +kernel
theorem dX9_bothIn_11 : decode cX9_bothIn 11 = .ok (.iaload, 1) := by decide +kernel
theorem dX9_bothIn_12 : decode cX9_bothIn 12 = .ok (.iconst (-1), 1) := by decide +kernel
theorem dX9_bothIn_13 : decode cX9_bothIn 13 = .ok (.ixor, 1) := by decide +kernel
theorem dX9_bothIn_14 : decode cX9_bothIn 14 = .ok (.iand, 1) := by decide +kernel
theorem dX9_bothIn_15 : decode cX9_bothIn 15 = .ok (.aload_n 0, 1) := by decide +kernel
theorem dX9_bothIn_16 : decode cX9_bothIn 16 = .ok (.getfield 9, 3) := by decide +kernel
theorem dX9_bothIn_19 : decode cX9_bothIn 19 = .ok (.iload_n 2, 1) := by decide +kernel
theorem dX9_bothIn_20 : decode cX9_bothIn 20 = .ok (.iconst 2, 1) := by decide +kernel
theorem dX9_bothIn_21 : decode cX9_bothIn 21 = .ok (.invokestatic 44, 3) := by decide +kernel
theorem dX9_bothIn_24 : decode cX9_bothIn 24 = .ok (.iaload, 1) := by decide +kernel
theorem dX9_bothIn_25 : decode cX9_bothIn 25 = .ok (.iconst (-1), 1) := by decide +kernel
theorem dX9_bothIn_26 : decode cX9_bothIn 26 = .ok (.ixor, 1) := by decide +kernel
theorem dX9_bothIn_27 : decode cX9_bothIn 27 = .ok (.iand, 1) := by decide +kernel
theorem dX9_bothIn_28 : decode cX9_bothIn 28 = .ok (.ireturn, 1) := by decide +kernel
theorem dX9_meet_0 : decode cX9_meet 0 = .ok (.aload_n 0, 1) := by decide +kernel
theorem dX9_meet_1 : decode cX9_meet 1 = .ok (.iload_n 1, 1) := by decide +kernel
theorem dX9_meet_2 : decode cX9_meet 2 = .ok (.invokevirtual 113, 3) := by decide +kernel
theorem dX9_meet_5 : decode cX9_meet 5 = .ok (.ifCond .eq 25, 3) := by decide +kernel
theorem dX9_meet_8 : decode cX9_meet 8 = .ok (.aload_n 0, 1) := by decide +kernel
theorem dX9_meet_9 : decode cX9_meet 9 = .ok (.iload_n 2, 1) := by decide +kernel
theorem dX9_meet_10 : decode cX9_meet 10 = .ok (.invokevirtual 113, 3) := by decide +kernel
theorem dX9_meet_13 : decode cX9_meet 13 = .ok (.ifCond .eq 17, 3) := by decide +kernel
theorem dX9_meet_16 : decode cX9_meet 16 = .ok (.iload_n 1, 1) := by decide +kernel
theorem dX9_meet_17 : decode cX9_meet 17 = .ok (.iload_n 2, 1) := by decide +kernel
theorem dX9_meet_18 : decode cX9_meet 18 = .ok (.if_icmp .eq 12, 3) := by decide +kernel
theorem dX9_meet_21 : decode cX9_meet 21 = .ok (.aload_n 0, 1) := by decide +kernel
theorem dX9_meet_22 : decode cX9_meet 22 = .ok (.iload_n 1, 1) := by decide +kernel
theorem dX9_meet_23 : decode cX9_meet 23 = .ok (.iload_n 2, 1) := by decide +kernel
theorem dX9_meet_24 : decode cX9_meet 24 = .ok (.invokevirtual 164, 3) := by decide +kernel
theorem dX9_meet_27 : decode cX9_meet 27 = .ok (.goto 8, 3) := by decide +kernel
theorem dX9_meet_30 : decode cX9_meet 30 = .ok (.aload_n 0, 1) := by decide +kernel
theorem dX9_meet_31 : decode cX9_meet 31 = .ok (.iconst (-1), 1) := by decide +kernel
theorem dX9_meet_32 : decode cX9_meet 32 = .ok (.invokevirtual 36, 3) := by decide +kernel
theorem dX9_meet_35 : decode cX9_meet 35 = .ok (.ireturn, 1) := by decide +kernel
theorem dX9_never_0 : decode cX9_never 0 = .ok (.iload_n 1, 1) := by decide +kernel
theorem dX9_never_1 : decode cX9_never 1 = .ok (.iconst 0, 1) := by decide +kernel
theorem dX9_never_2 : decode cX9_never 2 = .ok (.iconst 1, 1) := by decide +kernel
theorem dX9_never_3 : decode cX9_never 3 = .ok (.invokestatic 40, 3) := by decide +kernel
theorem dX9_never_6 : decode cX9_never 6 = .ok (.ifCond .ne 10, 3) := by decide +kernel
theorem dX9_never_9 : decode cX9_never 9 = .ok (.aload_n 0, 1) := by decide +kernel
theorem dX9_never_10 : decode cX9_never 10 = .ok (.bipush (-2), 2) := by decide +kernel
theorem dX9_never_12 : decode cX9_never 12 = .ok (.invokevirtual 36, 3) := by decide +kernel
theorem dX9_never_15 : decode cX9_never 15 = .ok (.ireturn, 1) := by decide +kernel
theorem dX9_never_16 : decode cX9_never 16 = .ok (.iconst 0, 1) := by decide +kernel
theorem dX9_never_17 : decode cX9_never 17 = .ok (.istore_n 2, 1) := by decide +kernel
theorem dX9_never_18 : decode cX9_never 18 = .ok (.bipush (-9), 2) := by decide +kernel
theorem dX9_never_20 : decode cX9_never 20 = .ok (.istore_n 3, 1) := by decide +kernel
theorem dX9_never_21 : decode cX9_never 21 = .ok (.iconst 0, 1) := by decide +kernel
theorem dX9_never_22 : decode cX9_never 22 = .ok (.istore 4, 2) := by decide +kernel
theorem dX9_never_24 : decode cX9_never 24 = .ok (.iload 4, 2) := by decide +kernel
theorem dX9_never_26 : decode cX9_never 26 = .ok (.aload_n 0, 1) := by decide +kernel
theorem dX9_never_27 : decode cX9_never 27 = .ok (.getfield 9, 3) := by decide +kernel
theorem dX9_never_30 : decode cX9_never 30 = .ok (.iconst 0, 1) := by decide +kernel
theorem dX9_never_31 : decode cX9_never 31 = .ok (.iaload, 1) := by decide +kernel
theorem dX9_never_32 : decode cX9_never 32 = .ok (.if_icmp .ge 66, 3) := by decide +kernel
theorem dX9_never_35 : decode cX9_never 35 = .ok (.iload 4, 2) := by decide +kernel
theorem dX9_never_37 : decode cX9_never 37 = .ok (.iconst 1, 1) := by decide +kernel
theorem dX9_never_38 : decode cX9_never 38 = .ok (.iadd, 1) := by decide +kernel
theorem dX9_never_39 : decode cX9_never 39 = .ok (.istore 5, 2) := by decide +kernel
theorem dX9_never_41 : decode cX9_never 41 = .ok (.iload 5, 2) := by decide +kernel
theorem dX9_never_43 : decode cX9_never 43 = .ok (.aload_n 0, 1) := by decide +kernel
theorem dX9_never_44 : decode cX9_never 44 = .ok (.getfield 9, 3) := by decide +kernel
theorem dX9_never_47 : decode cX9_never 47 = .ok (.iconst 0, 1) := by decide +kernel
theorem dX9_never_48 : decode cX9_never 48 = .ok (.iaload, 1) := by decide +kernel
theorem dX9_never_49 : decode cX9_never 49 = .ok (.if_icmp .ge 43, 3) := by decide +kernel
theorem dX9_never_52 : decode cX9_never 52 = .ok (.aload_n 0, 1) := by decide +kernel
theorem dX9_never_53 : decode cX9_never 53 = .ok (.iload 4, 2) := by decide +kernel
theorem dX9_never_55 : decode cX9_never 55 = .ok (.iload 5, 2) := by decide +kernel
theorem dX9_never_57 : decode cX9_never 57 = .ok (.invokevirtual 164, 3) := by decide +kernel
theorem dX9_never_60 : decode cX9_never 60 = .ok (.ifCond .eq 6, 3) := by decide +kernel
theorem dX9_never_63 : decode cX9_never 63 = .ok (.goto 23, 3) := by decide +kernel
theorem dX9_never_66 : decode cX9_never 66 = .ok (.iload_n 2, 1) := by decide +kernel
theorem dX9_never_67 : decode cX9_never 67 = .ok (.ifCond .ne 14, 3) := by decide +kernel
theorem dX9_never_70 : decode cX9_never 70 = .ok (.bipush 10, 2) := by decide +kernel
theorem dX9_never_72 : decode cX9_never 72 = .ok (.iload 4, 2) := by decide +kernel
theorem dX9_never_74 : decode cX9_never 74 = .ok (.imul, 1) := by decide +kernel
theorem dX9_never_75 : decode cX9_never 75 = .ok (.iload 5, 2) := by decide +kernel
theorem dX9_never_77 : decode cX9_never 77 = .ok (.iadd, 1) := by decide +kernel
theorem dX9_never_78 : decode cX9_never 78 = .ok (.goto 4, 3) := by decide +kernel
theorem dX9_never_81 : decode cX9_never 81 = .ok (.iload_n 3, 1) := by decide +kernel
theorem dX9_never_82 : decode cX9_never 82 = .ok (.istore_n 3, 1) := by decide +kernel
theorem dX9_never_83 : decode cX9_never 83 = .ok (.iinc 2 1, 3) := by decide +kernel
theorem dX9_never_86 : decode cX9_never 86 = .ok (.iinc 5 1, 3) := by decide +kernel
theorem dX9_never_89 : decode cX9_never 89 = .ok (.goto (-48), 3) := by decide +kernel
theorem dX9_never_92 : decode cX9_never 92 = .ok (.iinc 4 1, 3) := by decide +kernel
theorem dX9_never_95 : decode cX9_never 95 = .ok (.goto (-71), 3) := by decide +kernel
theorem dX9_never_98 : decode cX9_never 98 = .ok (.iload_n 1, 1) := by decide +kernel
theorem dX9_never_99 : decode cX9_never 99 = .ok (.ifCond .ne 7, 3) := by decide +kernel
theorem dX9_never_102 : decode cX9_never 102 = .ok (.iload_n 2, 1) := by decide +kernel
theorem dX9_never_103 : decode cX9_never 103 = .ok (.goto 4, 3) := by decide +kernel
theorem dX9_never_106 : decode cX9_never 106 = .ok (.iload_n 3, 1) := by decide +kernel
theorem dX9_never_107 : decode cX9_never 107 = .ok (.ireturn, 1) := by decide +kernel
theorem dX9_rest_0 : decode cX9_rest 0 = .ok (.aload_n 0, 1) := by decide +kernel
theorem dX9_rest_1 : decode cX9_rest 1 = .ok (.iload_n 1, 1) := by decide +kernel
theorem dX9_rest_2 : decode cX9_rest 2 = .ok (.invokevirtual 113, 3) := by decide +kernel
theorem dX9_rest_5 : decode cX9_rest 5 = .ok (.ifCond .ne 9, 3) := by decide +kernel
theorem dX9_rest_8 : decode cX9_rest 8 = .ok (.aload_n 0, 1) := by decide +kernel
theorem dX9_rest_9 : decode cX9_rest 9 = .ok (.iconst (-1), 1) := by decide +kernel
theorem dX9_rest_10 : decode cX9_rest 10 = .ok (.invokevirtual 36, 3) := by decide +kernel
theorem dX9_rest_13 : decode cX9_rest 13 = .ok (.ireturn, 1) := by decide +kernel
theorem dX9_rest_14 : decode cX9_rest 14 = .ok (.iconst 0, 1) := by decide +kernel
theorem dX9_rest_15 : decode cX9_rest 15 = .ok (.istore_n 2, 1) := by decide +kernel
theorem dX9_rest_16 : decode cX9_rest 16 = .ok (.iconst 0, 1) := by decide +kernel
theorem dX9_rest_17 : decode cX9_rest 17 = .ok (.istore_n 3, 1) := by decide +kernel
theorem dX9_rest_18 : decode cX9_rest 18 = .ok (.iconst 0, 1) := by decide +kernel
theorem dX9_rest_19 : decode cX9_rest 19 = .ok (.istore 4, 2) := by decide +kernel
theorem dX9_rest_21 : decode cX9_rest 21 = .ok (.iload 4, 2) := by decide +kernel
theorem dX9_rest_23 : decode cX9_rest 23 = .ok (.bipush 14, 2) := by decide +kernel
theorem dX9_rest_25 : decode cX9_rest 25 = .ok (.if_icmp .ge 49, 3) := by decide +kernel
theorem dX9_rest_28 : decode cX9_rest 28 = .ok (.aload_n 0, 1) := by decide +kernel
theorem dX9_rest_29 : decode cX9_rest 29 = .ok (.getfield 9, 3) := by decide +kernel
theorem dX9_rest_32 : decode cX9_rest 32 = .ok (.iload_n 1, 1) := by decide +kernel
theorem dX9_rest_33 : decode cX9_rest 33 = .ok (.iconst 2, 1) := by decide +kernel
theorem dX9_rest_34 : decode cX9_rest 34 = .ok (.invokestatic 44, 3) := by decide +kernel
theorem dX9_rest_37 : decode cX9_rest 37 = .ok (.iaload, 1) := by decide +kernel
theorem dX9_rest_38 : decode cX9_rest 38 = .ok (.iload 4, 2) := by decide +kernel
theorem dX9_rest_40 : decode cX9_rest 40 = .ok (.bipush 7, 2) := by decide +kernel
theorem dX9_rest_42 : decode cX9_rest 42 = .ok (.irem, 1) := by decide +kernel
theorem dX9_rest_43 : decode cX9_rest 43 = .ok (.invokestatic 65, 3) := by decide +kernel
theorem dX9_rest_46 : decode cX9_rest 46 = .ok (.ifCond .eq 9, 3) := by decide +kernel
theorem dX9_rest_49 : decode cX9_rest 49 = .ok (.iload_n 3, 1) := by decide +kernel
theorem dX9_rest_50 : decode cX9_rest 50 = .ok (.iconst 1, 1) := by decide +kernel
theorem dX9_rest_51 : decode cX9_rest 51 = .ok (.iadd, 1) := by decide +kernel
theorem dX9_rest_52 : decode cX9_rest 52 = .ok (.goto 4, 3) := by decide +kernel
theorem dX9_rest_55 : decode cX9_rest 55 = .ok (.iconst 0, 1) := by decide +kernel
theorem dX9_rest_56 : decode cX9_rest 56 = .ok (.istore_n 3, 1) := by decide +kernel
theorem dX9_rest_57 : decode cX9_rest 57 = .ok (.iload_n 3, 1) := by decide +kernel
theorem dX9_rest_58 : decode cX9_rest 58 = .ok (.iload_n 2, 1) := by decide +kernel
theorem dX9_rest_59 : decode cX9_rest 59 = .ok (.if_icmp .le 7, 3) := by decide +kernel
theorem dX9_rest_62 : decode cX9_rest 62 = .ok (.iload_n 3, 1) := by decide +kernel
theorem dX9_rest_63 : decode cX9_rest 63 = .ok (.goto 4, 3) := by decide +kernel
theorem dX9_rest_66 : decode cX9_rest 66 = .ok (.iload_n 2, 1) := by decide +kernel
theorem dX9_rest_67 : decode cX9_rest 67 = .ok (.istore_n 2, 1) := by decide +kernel
theorem dX9_rest_68 : decode cX9_rest 68 = .ok (.iinc 4 1, 3) := by decide +kernel
theorem dX9_rest_71 : decode cX9_rest 71 = .ok (.goto (-50), 3) := by decide +kernel
theorem dX9_rest_74 : decode cX9_rest 74 = .ok (.iload_n 2, 1) := by decide +kernel
theorem dX9_rest_75 : decode cX9_rest 75 = .ok (.bipush 7, 2) := by decide +kernel
theorem dX9_rest_77 : decode cX9_rest 77 = .ok (.invokestatic 79, 3) := by decide +kernel
theorem dX9_rest_80 : decode cX9_rest 80 = .ok (.ireturn, 1) := by decide +kernel
theorem dX9_tiredNow_0 : decode cX9_tiredNow 0 = .ok (.aload_n 0, 1) := by decide +kernel
theorem dX9_tiredNow_1 : decode cX9_tiredNow 1 = .ok (.iload_n 1, 1) := by decide +kernel
theorem dX9_tiredNow_2 : decode cX9_tiredNow 2 = .ok (.invokevirtual 140, 3) := by decide +kernel
theorem dX9_tiredNow_5 : decode cX9_tiredNow 5 = .ok (.aload_n 0, 1) := by decide +kernel
theorem dX9_tiredNow_6 : decode cX9_tiredNow 6 = .ok (.getfield 13, 3) := by decide +kernel
theorem dX9_tiredNow_9 : decode cX9_tiredNow 9 = .ok (.invokestatic 167, 3) := by decide +kernel
theorem dX9_tiredNow_12 : decode cX9_tiredNow 12 = .ok (.ireturn, 1) := by decide +kernel
theorem dX9_gift_0 : decode cX9_gift 0 = .ok (.aload_n 0, 1) := by decide +kernel
theorem dX9_gift_1 : decode cX9_gift 1 = .ok (.iload_n 1, 1) := by decide +kernel
theorem dX9_gift_2 : decode cX9_gift 2 = .ok (.invokevirtual 113, 3) := by decide +kernel
theorem dX9_gift_5 : decode cX9_gift 5 = .ok (.ifCond .eq 10, 3) := by decide +kernel
theorem dX9_gift_8 : decode cX9_gift 8 = .ok (.iload_n 2, 1) := by decide +kernel
theorem dX9_gift_9 : decode cX9_gift 9 = .ok (.invokestatic 117, 3) := by decide +kernel
theorem dX9_gift_12 : decode cX9_gift 12 = .ok (.ifCond .ne 7, 3) := by decide +kernel
theorem dX9_gift_15 : decode cX9_gift 15 = .ok (.iconst (-1), 1) := by decide +kernel
theorem dX9_gift_16 : decode cX9_gift 16 = .ok (.goto 10, 3) := by decide +kernel
theorem dX9_gift_19 : decode cX9_gift 19 = .ok (.iload_n 3, 1) := by decide +kernel
theorem dX9_gift_20 : decode cX9_gift 20 = .ok (.iconst 0, 1) := by decide +kernel
theorem dX9_gift_21 : decode cX9_gift 21 = .ok (.bipush 30, 2) := by decide +kernel
theorem dX9_gift_23 : decode cX9_gift 23 = .ok (.invokestatic 136, 3) := by decide +kernel
theorem dX9_gift_26 : decode cX9_gift 26 = .ok (.istore 4, 2) := by decide +kernel
theorem dX9_gift_28 : decode cX9_gift 28 = .ok (.iload 4, 2) := by decide +kernel
theorem dX9_gift_30 : decode cX9_gift 30 = .ok (.ifCond .ne 24, 3) := by decide +kernel
theorem dX9_gift_33 : decode cX9_gift 33 = .ok (.aload_n 0, 1) := by decide +kernel
theorem dX9_gift_34 : decode cX9_gift 34 = .ok (.getfield 9, 3) := by decide +kernel
theorem dX9_gift_37 : decode cX9_gift 37 = .ok (.iload_n 1, 1) := by decide +kernel
theorem dX9_gift_38 : decode cX9_gift 38 = .ok (.iconst 2, 1) := by decide +kernel
theorem dX9_gift_39 : decode cX9_gift 39 = .ok (.invokestatic 44, 3) := by decide +kernel
theorem dX9_gift_42 : decode cX9_gift 42 = .ok (.iaload, 1) := by decide +kernel
theorem dX9_gift_43 : decode cX9_gift 43 = .ok (.iload_n 2, 1) := by decide +kernel
theorem dX9_gift_44 : decode cX9_gift 44 = .ok (.invokestatic 65, 3) := by decide +kernel
theorem dX9_gift_47 : decode cX9_gift 47 = .ok (.ifCond .ne 7, 3) := by decide +kernel
theorem dX9_gift_50 : decode cX9_gift 50 = .ok (.bipush (-3), 2) := by decide +kernel
theorem dX9_gift_52 : decode cX9_gift 52 = .ok (.istore 4, 2) := by decide +kernel
theorem dX9_gift_54 : decode cX9_gift 54 = .ok (.iload 4, 2) := by decide +kernel
theorem dX9_gift_56 : decode cX9_gift 56 = .ok (.ifCond .eq 10, 3) := by decide +kernel
theorem dX9_gift_59 : decode cX9_gift 59 = .ok (.aload_n 0, 1) := by decide +kernel
theorem dX9_gift_60 : decode cX9_gift 60 = .ok (.iload 4, 2) := by decide +kernel
theorem dX9_gift_62 : decode cX9_gift 62 = .ok (.invokevirtual 36, 3) := by decide +kernel
theorem dX9_gift_65 : decode cX9_gift 65 = .ok (.ireturn, 1) := by decide +kernel
theorem dX9_gift_66 : decode cX9_gift 66 = .ok (.aload_n 0, 1) := by decide +kernel
theorem dX9_gift_67 : decode cX9_gift 67 = .ok (.iload_n 3, 1) := by decide +kernel
theorem dX9_gift_68 : decode cX9_gift 68 = .ok (.invokevirtual 170, 3) := by decide +kernel
theorem dX9_gift_71 : decode cX9_gift 71 = .ok (.istore 5, 2) := by decide +kernel
theorem dX9_gift_73 : decode cX9_gift 73 = .ok (.bipush (-9), 2) := by decide +kernel
theorem dX9_gift_75 : decode cX9_gift 75 = .ok (.istore 6, 2) := by decide +kernel
theorem dX9_gift_77 : decode cX9_gift 77 = .ok (.iconst 0, 1) := by decide +kernel
theorem dX9_gift_78 : decode cX9_gift 78 = .ok (.istore 7, 2) := by decide +kernel
theorem dX9_gift_80 : decode cX9_gift 80 = .ok (.iload 7, 2) := by decide +kernel
theorem dX9_gift_82 : decode cX9_gift 82 = .ok (.aload_n 0, 1) := by decide +kernel
theorem dX9_gift_83 : decode cX9_gift 83 = .ok (.getfield 9, 3) := by decide +kernel
theorem dX9_gift_86 : decode cX9_gift 86 = .ok (.iconst 0, 1) := by decide +kernel
theorem dX9_gift_87 : decode cX9_gift 87 = .ok (.iaload, 1) := by decide +kernel
theorem dX9_gift_88 : decode cX9_gift 88 = .ok (.if_icmp .ge 81, 3) := by decide +kernel
theorem dX9_gift_91 : decode cX9_gift 91 = .ok (.aload_n 0, 1) := by decide +kernel
theorem dX9_gift_92 : decode cX9_gift 92 = .ok (.iload_n 1, 1) := by decide +kernel
theorem dX9_gift_93 : decode cX9_gift 93 = .ok (.iload 7, 2) := by decide +kernel
theorem dX9_gift_95 : decode cX9_gift 95 = .ok (.iload_n 2, 1) := by decide +kernel
theorem dX9_gift_96 : decode cX9_gift 96 = .ok (.invokevirtual 120, 3) := by decide +kernel
theorem dX9_gift_99 : decode cX9_gift 99 = .ok (.ifCond .ne 6, 3) := by decide +kernel
theorem dX9_gift_102 : decode cX9_gift 102 = .ok (.goto 61, 3) := by decide +kernel
theorem dX9_gift_105 : decode cX9_gift 105 = .ok (.aload_n 0, 1) := by decide +kernel
theorem dX9_gift_106 : decode cX9_gift 106 = .ok (.getfield 9, 3) := by decide +kernel
theorem dX9_gift_109 : decode cX9_gift 109 = .ok (.aload_n 0, 1) := by decide +kernel
theorem dX9_gift_110 : decode cX9_gift 110 = .ok (.getfield 13, 3) := by decide +kernel
theorem dX9_gift_113 : decode cX9_gift 113 = .ok (.invokestatic 129, 3) := by decide +kernel
theorem dX9_gift_116 : decode cX9_gift 116 = .ok (.aload_n 0, 1) := by decide +kernel
theorem dX9_gift_117 : decode cX9_gift 117 = .ok (.getfield 13, 3) := by decide +kernel
theorem dX9_gift_120 : decode cX9_gift 120 = .ok (.iload_n 1, 1) := by decide +kernel
theorem dX9_gift_121 : decode cX9_gift 121 = .ok (.iload 7, 2) := by decide +kernel
theorem dX9_gift_123 : decode cX9_gift 123 = .ok (.iload_n 2, 1) := by decide +kernel
theorem dX9_gift_124 : decode cX9_gift 124 = .ok (.invokestatic 75, 3) := by decide +kernel
theorem dX9_gift_127 : decode cX9_gift 127 = .ok (.aload_n 0, 1) := by decide +kernel
theorem dX9_gift_128 : decode cX9_gift 128 = .ok (.getfield 13, 3) := by decide +kernel
theorem dX9_gift_131 : decode cX9_gift 131 = .ok (.iload_n 3, 1) := by decide +kernel
theorem dX9_gift_132 : decode cX9_gift 132 = .ok (.invokestatic 123, 3) := by decide +kernel
theorem dX9_gift_135 : decode cX9_gift 135 = .ok (.aload_n 0, 1) := by decide +kernel
theorem dX9_gift_136 : decode cX9_gift 136 = .ok (.getfield 13, 3) := by decide +kernel
theorem dX9_gift_139 : decode cX9_gift 139 = .ok (.invokestatic 167, 3) := by decide +kernel
theorem dX9_gift_142 : decode cX9_gift 142 = .ok (.iload 5, 2) := by decide +kernel
theorem dX9_gift_144 : decode cX9_gift 144 = .ok (.if_icmp .lt 6, 3) := by decide +kernel
theorem dX9_gift_147 : decode cX9_gift 147 = .ok (.goto 16, 3) := by decide +kernel
theorem dX9_gift_150 : decode cX9_gift 150 = .ok (.iload 7, 2) := by decide +kernel
theorem dX9_gift_152 : decode cX9_gift 152 = .ok (.istore 6, 2) := by decide +kernel
theorem dX9_gift_154 : decode cX9_gift 154 = .ok (.aload_n 0, 1) := by decide +kernel
theorem dX9_gift_155 : decode cX9_gift 155 = .ok (.getfield 13, 3) := by decide +kernel
theorem dX9_gift_158 : decode cX9_gift 158 = .ok (.invokestatic 167, 3) := by decide +kernel
theorem dX9_gift_161 : decode cX9_gift 161 = .ok (.istore 5, 2) := by decide +kernel
theorem dX9_gift_163 : decode cX9_gift 163 = .ok (.iinc 7 1, 3) := by decide +kernel
theorem dX9_gift_166 : decode cX9_gift 166 = .ok (.goto (-86), 3) := by decide +kernel
theorem dX9_gift_169 : decode cX9_gift 169 = .ok (.iload 6, 2) := by decide +kernel
theorem dX9_gift_171 : decode cX9_gift 171 = .ok (.ireturn, 1) := by decide +kernel
theorem dX9_trade_0 : decode cX9_trade 0 = .ok (.aload_n 0, 1) := by decide +kernel
theorem dX9_trade_1 : decode cX9_trade 1 = .ok (.iload_n 1, 1) := by decide +kernel
theorem dX9_trade_2 : decode cX9_trade 2 = .ok (.invokevirtual 113, 3) := by decide +kernel
theorem dX9_trade_5 : decode cX9_trade 5 = .ok (.ifCond .eq 26, 3) := by decide +kernel
theorem dX9_trade_8 : decode cX9_trade 8 = .ok (.aload_n 0, 1) := by decide +kernel
theorem dX9_trade_9 : decode cX9_trade 9 = .ok (.iload_n 2, 1) := by decide +kernel
theorem dX9_trade_10 : decode cX9_trade 10 = .ok (.invokevirtual 113, 3) := by decide +kernel
theorem dX9_trade_13 : decode cX9_trade 13 = .ok (.ifCond .eq 18, 3) := by decide +kernel
theorem dX9_trade_16 : decode cX9_trade 16 = .ok (.iload_n 1, 1) := by decide +kernel
theorem dX9_trade_17 : decode cX9_trade 17 = .ok (.iload_n 2, 1) := by decide +kernel
theorem dX9_trade_18 : decode cX9_trade 18 = .ok (.if_icmp .eq 13, 3) := by decide +kernel
theorem dX9_trade_21 : decode cX9_trade 21 = .ok (.iload_n 3, 1) := by decide +kernel
theorem dX9_trade_22 : decode cX9_trade 22 = .ok (.iconst 0, 1) := by decide +kernel
theorem dX9_trade_23 : decode cX9_trade 23 = .ok (.bipush 30, 2) := by decide +kernel
theorem dX9_trade_25 : decode cX9_trade 25 = .ok (.invokestatic 136, 3) := by decide +kernel
theorem dX9_trade_28 : decode cX9_trade 28 = .ok (.goto 4, 3) := by decide +kernel
theorem dX9_trade_31 : decode cX9_trade 31 = .ok (.iconst (-1), 1) := by decide +kernel
theorem dX9_trade_32 : decode cX9_trade 32 = .ok (.istore 4, 2) := by decide +kernel
theorem dX9_trade_34 : decode cX9_trade 34 = .ok (.iload 4, 2) := by decide +kernel
theorem dX9_trade_36 : decode cX9_trade 36 = .ok (.ifCond .eq 10, 3) := by decide +kernel
theorem dX9_trade_39 : decode cX9_trade 39 = .ok (.aload_n 0, 1) := by decide +kernel
theorem dX9_trade_40 : decode cX9_trade 40 = .ok (.iload 4, 2) := by decide +kernel
theorem dX9_trade_42 : decode cX9_trade 42 = .ok (.invokevirtual 36, 3) := by decide +kernel
theorem dX9_trade_45 : decode cX9_trade 45 = .ok (.ireturn, 1) := by decide +kernel
theorem dX9_trade_46 : decode cX9_trade 46 = .ok (.aload_n 0, 1) := by decide +kernel
theorem dX9_trade_47 : decode cX9_trade 47 = .ok (.iload_n 3, 1) := by decide +kernel
theorem dX9_trade_48 : decode cX9_trade 48 = .ok (.invokevirtual 140, 3) := by decide +kernel
theorem dX9_trade_51 : decode cX9_trade 51 = .ok (.aload_n 0, 1) := by decide +kernel
theorem dX9_trade_52 : decode cX9_trade 52 = .ok (.getfield 13, 3) := by decide +kernel
theorem dX9_trade_55 : decode cX9_trade 55 = .ok (.iload_n 1, 1) := by decide +kernel
theorem dX9_trade_56 : decode cX9_trade 56 = .ok (.iconst 3, 1) := by decide +kernel
theorem dX9_trade_57 : decode cX9_trade 57 = .ok (.invokestatic 44, 3) := by decide +kernel
theorem dX9_trade_60 : decode cX9_trade 60 = .ok (.iaload, 1) := by decide +kernel
theorem dX9_trade_61 : decode cX9_trade 61 = .ok (.aload_n 0, 1) := by decide +kernel
theorem dX9_trade_62 : decode cX9_trade 62 = .ok (.getfield 13, 3) := by decide +kernel
theorem dX9_trade_65 : decode cX9_trade 65 = .ok (.iload_n 2, 1) := by decide +kernel
theorem dX9_trade_66 : decode cX9_trade 66 = .ok (.iconst 3, 1) := by decide +kernel
theorem dX9_trade_67 : decode cX9_trade 67 = .ok (.invokestatic 44, 3) := by decide +kernel
theorem dX9_trade_70 : decode cX9_trade 70 = .ok (.iaload, 1) := by decide +kernel
theorem dX9_trade_71 : decode cX9_trade 71 = .ok (.iadd, 1) := by decide +kernel
theorem dX9_trade_72 : decode cX9_trade 72 = .ok (.istore 5, 2) := by decide +kernel
theorem dX9_trade_74 : decode cX9_trade 74 = .ok (.bipush (-9), 2) := by decide +kernel
theorem dX9_trade_76 : decode cX9_trade 76 = .ok (.istore 6, 2) := by decide +kernel
theorem dX9_trade_78 : decode cX9_trade 78 = .ok (.iconst 0, 1) := by decide +kernel
theorem dX9_trade_79 : decode cX9_trade 79 = .ok (.istore 7, 2) := by decide +kernel
theorem dX9_trade_81 : decode cX9_trade 81 = .ok (.iload 7, 2) := by decide +kernel
theorem dX9_trade_83 : decode cX9_trade 83 = .ok (.bipush 49, 2) := by decide +kernel
theorem dX9_trade_85 : decode cX9_trade 85 = .ok (.if_icmp .ge 136, 3) := by decide +kernel
theorem dX9_trade_88 : decode cX9_trade 88 = .ok (.iload 7, 2) := by decide +kernel
theorem dX9_trade_90 : decode cX9_trade 90 = .ok (.bipush 7, 2) := by decide +kernel
theorem dX9_trade_92 : decode cX9_trade 92 = .ok (.idiv, 1) := by decide +kernel
theorem dX9_trade_93 : decode cX9_trade 93 = .ok (.istore 8, 2) := by decide +kernel
theorem dX9_trade_95 : decode cX9_trade 95 = .ok (.iload 7, 2) := by decide +kernel
theorem dX9_trade_97 : decode cX9_trade 97 = .ok (.bipush 7, 2) := by decide +kernel
theorem dX9_trade_99 : decode cX9_trade 99 = .ok (.irem, 1) := by decide +kernel
theorem dX9_trade_100 : decode cX9_trade 100 = .ok (.istore 9, 2) := by decide +kernel
theorem dX9_trade_102 : decode cX9_trade 102 = .ok (.aload_n 0, 1) := by decide +kernel
theorem dX9_trade_103 : decode cX9_trade 103 = .ok (.iload_n 1, 1) := by decide +kernel
theorem dX9_trade_104 : decode cX9_trade 104 = .ok (.iload_n 2, 1) := by decide +kernel
theorem dX9_trade_105 : decode cX9_trade 105 = .ok (.iload 8, 2) := by decide +kernel
theorem dX9_trade_107 : decode cX9_trade 107 = .ok (.invokevirtual 120, 3) := by decide +kernel
theorem dX9_trade_110 : decode cX9_trade 110 = .ok (.ifCond .eq 105, 3) := by decide +kernel
theorem dX9_trade_113 : decode cX9_trade 113 = .ok (.aload_n 0, 1) := by decide +kernel
theorem dX9_trade_114 : decode cX9_trade 114 = .ok (.iload_n 2, 1) := by decide +kernel
theorem dX9_trade_115 : decode cX9_trade 115 = .ok (.iload_n 1, 1) := by decide +kernel
theorem dX9_trade_116 : decode cX9_trade 116 = .ok (.iload 9, 2) := by decide +kernel
theorem dX9_trade_118 : decode cX9_trade 118 = .ok (.invokevirtual 120, 3) := by decide +kernel
theorem dX9_trade_121 : decode cX9_trade 121 = .ok (.ifCond .ne 6, 3) := by decide +kernel
theorem dX9_trade_124 : decode cX9_trade 124 = .ok (.goto 91, 3) := by decide +kernel
theorem dX9_trade_127 : decode cX9_trade 127 = .ok (.aload_n 0, 1) := by decide +kernel
theorem dX9_trade_128 : decode cX9_trade 128 = .ok (.getfield 9, 3) := by decide +kernel
theorem dX9_trade_131 : decode cX9_trade 131 = .ok (.aload_n 0, 1) := by decide +kernel
theorem dX9_trade_132 : decode cX9_trade 132 = .ok (.getfield 13, 3) := by decide +kernel
theorem dX9_trade_135 : decode cX9_trade 135 = .ok (.invokestatic 129, 3) := by decide +kernel
theorem dX9_trade_138 : decode cX9_trade 138 = .ok (.aload_n 0, 1) := by decide +kernel
theorem dX9_trade_139 : decode cX9_trade 139 = .ok (.getfield 13, 3) := by decide +kernel
theorem dX9_trade_142 : decode cX9_trade 142 = .ok (.iload_n 1, 1) := by decide +kernel
theorem dX9_trade_143 : decode cX9_trade 143 = .ok (.iload_n 2, 1) := by decide +kernel
theorem dX9_trade_144 : decode cX9_trade 144 = .ok (.iload 8, 2) := by decide +kernel
theorem dX9_trade_146 : decode cX9_trade 146 = .ok (.invokestatic 75, 3) := by decide +kernel
theorem dX9_trade_149 : decode cX9_trade 149 = .ok (.aload_n 0, 1) := by decide +kernel
theorem dX9_trade_150 : decode cX9_trade 150 = .ok (.getfield 13, 3) := by decide +kernel
theorem dX9_trade_153 : decode cX9_trade 153 = .ok (.iload_n 2, 1) := by decide +kernel
theorem dX9_trade_154 : decode cX9_trade 154 = .ok (.iload_n 1, 1) := by decide +kernel
theorem dX9_trade_155 : decode cX9_trade 155 = .ok (.iload 9, 2) := by decide +kernel
theorem dX9_trade_157 : decode cX9_trade 157 = .ok (.invokestatic 75, 3) := by decide +kernel
theorem dX9_trade_160 : decode cX9_trade 160 = .ok (.aload_n 0, 1) := by decide +kernel
theorem dX9_trade_161 : decode cX9_trade 161 = .ok (.getfield 13, 3) := by decide +kernel
theorem dX9_trade_164 : decode cX9_trade 164 = .ok (.iload_n 3, 1) := by decide +kernel
theorem dX9_trade_165 : decode cX9_trade 165 = .ok (.invokestatic 123, 3) := by decide +kernel
theorem dX9_trade_168 : decode cX9_trade 168 = .ok (.aload_n 0, 1) := by decide +kernel
theorem dX9_trade_169 : decode cX9_trade 169 = .ok (.getfield 13, 3) := by decide +kernel
theorem dX9_trade_172 : decode cX9_trade 172 = .ok (.iload_n 1, 1) := by decide +kernel
theorem dX9_trade_173 : decode cX9_trade 173 = .ok (.iconst 3, 1) := by decide +kernel
theorem dX9_trade_174 : decode cX9_trade 174 = .ok (.invokestatic 44, 3) := by decide +kernel
theorem dX9_trade_177 : decode cX9_trade 177 = .ok (.iaload, 1) := by decide +kernel
theorem dX9_trade_178 : decode cX9_trade 178 = .ok (.aload_n 0, 1) := by decide +kernel
theorem dX9_trade_179 : decode cX9_trade 179 = .ok (.getfield 13, 3) := by decide +kernel
theorem dX9_trade_182 : decode cX9_trade 182 = .ok (.iload_n 2, 1) := by decide +kernel
theorem dX9_trade_183 : decode cX9_trade 183 = .ok (.iconst 3, 1) := by decide +kernel
theorem dX9_trade_184 : decode cX9_trade 184 = .ok (.invokestatic 44, 3) := by decide +kernel
theorem dX9_trade_187 : decode cX9_trade 187 = .ok (.iaload, 1) := by decide +kernel
theorem dX9_trade_188 : decode cX9_trade 188 = .ok (.iadd, 1) := by decide +kernel
theorem dX9_trade_189 : decode cX9_trade 189 = .ok (.istore 10, 2) := by decide +kernel
theorem dX9_trade_191 : decode cX9_trade 191 = .ok (.iload 10, 2) := by decide +kernel
theorem dX9_trade_193 : decode cX9_trade 193 = .ok (.iload 5, 2) := by decide +kernel
theorem dX9_trade_195 : decode cX9_trade 195 = .ok (.if_icmp .lt 6, 3) := by decide +kernel
theorem dX9_trade_198 : decode cX9_trade 198 = .ok (.goto 17, 3) := by decide +kernel
theorem dX9_trade_201 : decode cX9_trade 201 = .ok (.bipush 10, 2) := by decide +kernel
theorem dX9_trade_203 : decode cX9_trade 203 = .ok (.iload 8, 2) := by decide +kernel
theorem dX9_trade_205 : decode cX9_trade 205 = .ok (.imul, 1) := by decide +kernel
theorem dX9_trade_206 : decode cX9_trade 206 = .ok (.iload 9, 2) := by decide +kernel
theorem dX9_trade_208 : decode cX9_trade 208 = .ok (.iadd, 1) := by decide +kernel
theorem dX9_trade_209 : decode cX9_trade 209 = .ok (.istore 6, 2) := by decide +kernel
theorem dX9_trade_211 : decode cX9_trade 211 = .ok (.iload 10, 2) := by decide +kernel
theorem dX9_trade_213 : decode cX9_trade 213 = .ok (.istore 5, 2) := by decide +kernel
theorem dX9_trade_215 : decode cX9_trade 215 = .ok (.iinc 7 1, 3) := by decide +kernel
theorem dX9_trade_218 : decode cX9_trade 218 = .ok (.goto (-137), 3) := by decide +kernel
theorem dX9_trade_221 : decode cX9_trade 221 = .ok (.iload 6, 2) := by decide +kernel
theorem dX9_trade_223 : decode cX9_trade 223 = .ok (.ireturn, 1) := by decide +kernel
theorem dX9_better_0 : decode cX9_better 0 = .ok (.aload_n 0, 1) := by decide +kernel
theorem dX9_better_1 : decode cX9_better 1 = .ok (.iload_n 1, 1) := by decide +kernel
theorem dX9_better_2 : decode cX9_better 2 = .ok (.invokevirtual 113, 3) := by decide +kernel
theorem dX9_better_5 : decode cX9_better 5 = .ok (.ifCond .eq 13, 3) := by decide +kernel
theorem dX9_better_8 : decode cX9_better 8 = .ok (.iload_n 2, 1) := by decide +kernel
theorem dX9_better_9 : decode cX9_better 9 = .ok (.iconst 0, 1) := by decide +kernel
theorem dX9_better_10 : decode cX9_better 10 = .ok (.bipush 30, 2) := by decide +kernel
theorem dX9_better_12 : decode cX9_better 12 = .ok (.invokestatic 136, 3) := by decide +kernel
theorem dX9_better_15 : decode cX9_better 15 = .ok (.goto 4, 3) := by decide +kernel
theorem dX9_better_18 : decode cX9_better 18 = .ok (.iconst (-1), 1) := by decide +kernel
theorem dX9_better_19 : decode cX9_better 19 = .ok (.istore 4, 2) := by decide +kernel
theorem dX9_better_21 : decode cX9_better 21 = .ok (.iload 4, 2) := by decide +kernel
theorem dX9_better_23 : decode cX9_better 23 = .ok (.ifCond .ne 16, 3) := by decide +kernel
theorem dX9_better_26 : decode cX9_better 26 = .ok (.iload_n 3, 1) := by decide +kernel
theorem dX9_better_27 : decode cX9_better 27 = .ok (.iconst 0, 1) := by decide +kernel
theorem dX9_better_28 : decode cX9_better 28 = .ok (.iconst 1, 1) := by decide +kernel
theorem dX9_better_29 : decode cX9_better 29 = .ok (.invokestatic 40, 3) := by decide +kernel
theorem dX9_better_32 : decode cX9_better 32 = .ok (.ifCond .ne 7, 3) := by decide +kernel
theorem dX9_better_35 : decode cX9_better 35 = .ok (.bipush (-2), 2) := by decide +kernel
theorem dX9_better_37 : decode cX9_better 37 = .ok (.istore 4, 2) := by decide +kernel
theorem dX9_better_39 : decode cX9_better 39 = .ok (.iload 4, 2) := by decide +kernel
theorem dX9_better_41 : decode cX9_better 41 = .ok (.ifCond .eq 10, 3) := by decide +kernel
theorem dX9_better_44 : decode cX9_better 44 = .ok (.aload_n 0, 1) := by decide +kernel
theorem dX9_better_45 : decode cX9_better 45 = .ok (.iload 4, 2) := by decide +kernel
theorem dX9_better_47 : decode cX9_better 47 = .ok (.invokevirtual 36, 3) := by decide +kernel
theorem dX9_better_50 : decode cX9_better 50 = .ok (.ireturn, 1) := by decide +kernel
theorem dX9_better_51 : decode cX9_better 51 = .ok (.bipush (-9), 2) := by decide +kernel
theorem dX9_better_53 : decode cX9_better 53 = .ok (.istore 5, 2) := by decide +kernel
theorem dX9_better_55 : decode cX9_better 55 = .ok (.ldc 147, 2) := by decide +kernel
theorem dX9_better_57 : decode cX9_better 57 = .ok (.istore 6, 2) := by decide +kernel
theorem dX9_better_59 : decode cX9_better 59 = .ok (.iconst 0, 1) := by decide +kernel
theorem dX9_better_60 : decode cX9_better 60 = .ok (.istore 7, 2) := by decide +kernel
theorem dX9_better_62 : decode cX9_better 62 = .ok (.iload 7, 2) := by decide +kernel
theorem dX9_better_64 : decode cX9_better 64 = .ok (.bipush 6, 2) := by decide +kernel
theorem dX9_better_66 : decode cX9_better 66 = .ok (.if_icmp .ge 68, 3) := by decide +kernel
theorem dX9_better_69 : decode cX9_better 69 = .ok (.aload_n 0, 1) := by decide +kernel
theorem dX9_better_70 : decode cX9_better 70 = .ok (.getfield 9, 3) := by decide +kernel
theorem dX9_better_73 : decode cX9_better 73 = .ok (.aload_n 0, 1) := by decide +kernel
theorem dX9_better_74 : decode cX9_better 74 = .ok (.getfield 13, 3) := by decide +kernel
theorem dX9_better_77 : decode cX9_better 77 = .ok (.invokestatic 129, 3) := by decide +kernel
theorem dX9_better_80 : decode cX9_better 80 = .ok (.aload_n 0, 1) := by decide +kernel
end
section
theorem dX9_better_81 : decode cX9_better 81 = .ok (.getfield 13, 3) := by decide +kernel
theorem dX9_better_84 : decode cX9_better 84 = .ok (.iload_n 1, 1) := by decide +kernel
theorem dX9_better_85 : decode cX9_better 85 = .ok (.iconst 0, 1) := by decide +kernel
theorem dX9_better_86 : decode cX9_better 86 = .ok (.invokestatic 44, 3) := by decide +kernel
theorem dX9_better_89 : decode cX9_better 89 = .ok (.iload 7, 2) := by decide +kernel
theorem dX9_better_91 : decode cX9_better 91 = .ok (.iastore, 1) := by decide +kernel
theorem dX9_better_92 : decode cX9_better 92 = .ok (.aload_n 0, 1) := by decide +kernel
theorem dX9_better_93 : decode cX9_better 93 = .ok (.getfield 13, 3) := by decide +kernel
theorem dX9_better_96 : decode cX9_better 96 = .ok (.iload_n 2, 1) := by decide +kernel
theorem dX9_better_97 : decode cX9_better 97 = .ok (.invokestatic 123, 3) := by decide +kernel
theorem dX9_better_100 : decode cX9_better 100 = .ok (.aload_n 0, 1) := by decide +kernel
theorem dX9_better_101 : decode cX9_better 101 = .ok (.getfield 13, 3) := by decide +kernel
theorem dX9_better_104 : decode cX9_better 104 = .ok (.invokestatic 167, 3) := by decide +kernel
theorem dX9_better_107 : decode cX9_better 107 = .ok (.iload 6, 2) := by decide +kernel
theorem dX9_better_109 : decode cX9_better 109 = .ok (.if_icmp .lt 6, 3) := by decide +kernel
theorem dX9_better_112 : decode cX9_better 112 = .ok (.goto 16, 3) := by decide +kernel
theorem dX9_better_115 : decode cX9_better 115 = .ok (.iload 7, 2) := by decide +kernel
theorem dX9_better_117 : decode cX9_better 117 = .ok (.istore 5, 2) := by decide +kernel
theorem dX9_better_119 : decode cX9_better 119 = .ok (.aload_n 0, 1) := by decide +kernel
theorem dX9_better_120 : decode cX9_better 120 = .ok (.getfield 13, 3) := by decide +kernel
theorem dX9_better_123 : decode cX9_better 123 = .ok (.invokestatic 167, 3) := by decide +kernel
theorem dX9_better_126 : decode cX9_better 126 = .ok (.istore 6, 2) := by decide +kernel
theorem dX9_better_128 : decode cX9_better 128 = .ok (.iinc 7 1, 3) := by decide +kernel
theorem dX9_better_131 : decode cX9_better 131 = .ok (.goto (-69), 3) := by decide +kernel
theorem dX9_better_134 : decode cX9_better 134 = .ok (.iload_n 3, 1) := by decide +kernel
theorem dX9_better_135 : decode cX9_better 135 = .ok (.ifCond .ne 8, 3) := by decide +kernel
theorem dX9_better_138 : decode cX9_better 138 = .ok (.iload 5, 2) := by decide +kernel
theorem dX9_better_140 : decode cX9_better 140 = .ok (.goto 5, 3) := by decide +kernel
theorem dX9_better_143 : decode cX9_better 143 = .ok (.iload 6, 2) := by decide +kernel
theorem dX9_better_145 : decode cX9_better 145 = .ok (.ireturn, 1) := by decide +kernel
theorem dX9_doesNobodyFall_0 : decode cX9_doesNobodyFall 0 = .ok (.iconst 0, 1) := by decide +kernel
theorem dX9_doesNobodyFall_1 : decode cX9_doesNobodyFall 1 = .ok (.istore_n 2, 1) := by decide +kernel
theorem dX9_doesNobodyFall_2 : decode cX9_doesNobodyFall 2 = .ok (.iload_n 2, 1) := by decide +kernel
theorem dX9_doesNobodyFall_3 : decode cX9_doesNobodyFall 3 = .ok (.iload_n 1, 1) := by decide +kernel
theorem dX9_doesNobodyFall_4 : decode cX9_doesNobodyFall 4 = .ok (.if_icmp .gt 52, 3) := by decide +kernel
theorem dX9_doesNobodyFall_7 : decode cX9_doesNobodyFall 7 = .ok (.iconst 0, 1) := by decide +kernel
theorem dX9_doesNobodyFall_8 : decode cX9_doesNobodyFall 8 = .ok (.istore_n 3, 1) := by decide +kernel
theorem dX9_doesNobodyFall_9 : decode cX9_doesNobodyFall 9 = .ok (.iload_n 3, 1) := by decide +kernel
theorem dX9_doesNobodyFall_10 : decode cX9_doesNobodyFall 10 = .ok (.aload_n 0, 1) := by decide +kernel
theorem dX9_doesNobodyFall_11 : decode cX9_doesNobodyFall 11 = .ok (.getfield 13, 3) := by decide +kernel
theorem dX9_doesNobodyFall_14 : decode cX9_doesNobodyFall 14 = .ok (.iconst 0, 1) := by decide +kernel
theorem dX9_doesNobodyFall_15 : decode cX9_doesNobodyFall 15 = .ok (.iaload, 1) := by decide +kernel
theorem dX9_doesNobodyFall_16 : decode cX9_doesNobodyFall 16 = .ok (.if_icmp .ge 26, 3) := by decide +kernel
theorem dX9_doesNobodyFall_19 : decode cX9_doesNobodyFall 19 = .ok (.aload_n 0, 1) := by decide +kernel
theorem dX9_doesNobodyFall_20 : decode cX9_doesNobodyFall 20 = .ok (.getfield 13, 3) := by decide +kernel
theorem dX9_doesNobodyFall_23 : decode cX9_doesNobodyFall 23 = .ok (.iload_n 3, 1) := by decide +kernel
theorem dX9_doesNobodyFall_24 : decode cX9_doesNobodyFall 24 = .ok (.iconst 3, 1) := by decide +kernel
theorem dX9_doesNobodyFall_25 : decode cX9_doesNobodyFall 25 = .ok (.invokestatic 44, 3) := by decide +kernel
theorem dX9_doesNobodyFall_28 : decode cX9_doesNobodyFall 28 = .ok (.iaload, 1) := by decide +kernel
theorem dX9_doesNobodyFall_29 : decode cX9_doesNobodyFall 29 = .ok (.bipush 20, 2) := by decide +kernel
theorem dX9_doesNobodyFall_31 : decode cX9_doesNobodyFall 31 = .ok (.if_icmp .lt 5, 3) := by decide +kernel
theorem dX9_doesNobodyFall_34 : decode cX9_doesNobodyFall 34 = .ok (.iconst 0, 1) := by decide +kernel
theorem dX9_doesNobodyFall_35 : decode cX9_doesNobodyFall 35 = .ok (.ireturn, 1) := by decide +kernel
theorem dX9_doesNobodyFall_36 : decode cX9_doesNobodyFall 36 = .ok (.iinc 3 1, 3) := by decide +kernel
theorem dX9_doesNobodyFall_39 : decode cX9_doesNobodyFall 39 = .ok (.goto (-30), 3) := by decide +kernel
theorem dX9_doesNobodyFall_42 : decode cX9_doesNobodyFall 42 = .ok (.aload_n 0, 1) := by decide +kernel
theorem dX9_doesNobodyFall_43 : decode cX9_doesNobodyFall 43 = .ok (.getfield 13, 3) := by decide +kernel
theorem dX9_doesNobodyFall_46 : decode cX9_doesNobodyFall 46 = .ok (.iconst 0, 1) := by decide +kernel
theorem dX9_doesNobodyFall_47 : decode cX9_doesNobodyFall 47 = .ok (.invokestatic 89, 3) := by decide +kernel
theorem dX9_doesNobodyFall_50 : decode cX9_doesNobodyFall 50 = .ok (.iinc 2 1, 3) := by decide +kernel
theorem dX9_doesNobodyFall_53 : decode cX9_doesNobodyFall 53 = .ok (.goto (-51), 3) := by decide +kernel
theorem dX9_doesNobodyFall_56 : decode cX9_doesNobodyFall 56 = .ok (.iconst 1, 1) := by decide +kernel
theorem dX9_doesNobodyFall_57 : decode cX9_doesNobodyFall 57 = .ok (.ireturn, 1) := by decide +kernel
theorem dX9_fewest_0 : decode cX9_fewest 0 = .ok (.iload_n 1, 1) := by decide +kernel
theorem dX9_fewest_1 : decode cX9_fewest 1 = .ok (.iconst 0, 1) := by decide +kernel
theorem dX9_fewest_2 : decode cX9_fewest 2 = .ok (.bipush 20, 2) := by decide +kernel
theorem dX9_fewest_4 : decode cX9_fewest 4 = .ok (.invokestatic 136, 3) := by decide +kernel
theorem dX9_fewest_7 : decode cX9_fewest 7 = .ok (.istore_n 2, 1) := by decide +kernel
theorem dX9_fewest_8 : decode cX9_fewest 8 = .ok (.iload_n 2, 1) := by decide +kernel
theorem dX9_fewest_9 : decode cX9_fewest 9 = .ok (.ifCond .eq 9, 3) := by decide +kernel
theorem dX9_fewest_12 : decode cX9_fewest 12 = .ok (.aload_n 0, 1) := by decide +kernel
theorem dX9_fewest_13 : decode cX9_fewest 13 = .ok (.iload_n 2, 1) := by decide +kernel
theorem dX9_fewest_14 : decode cX9_fewest 14 = .ok (.invokevirtual 36, 3) := by decide +kernel
theorem dX9_fewest_17 : decode cX9_fewest 17 = .ok (.ireturn, 1) := by decide +kernel
theorem dX9_fewest_18 : decode cX9_fewest 18 = .ok (.bipush (-9), 2) := by decide +kernel
theorem dX9_fewest_20 : decode cX9_fewest 20 = .ok (.istore_n 3, 1) := by decide +kernel
theorem dX9_fewest_21 : decode cX9_fewest 21 = .ok (.iconst 0, 1) := by decide +kernel
theorem dX9_fewest_22 : decode cX9_fewest 22 = .ok (.istore 4, 2) := by decide +kernel
theorem dX9_fewest_24 : decode cX9_fewest 24 = .ok (.iload 4, 2) := by decide +kernel
theorem dX9_fewest_26 : decode cX9_fewest 26 = .ok (.iconst 1, 1) := by decide +kernel
theorem dX9_fewest_27 : decode cX9_fewest 27 = .ok (.aload_n 0, 1) := by decide +kernel
theorem dX9_fewest_28 : decode cX9_fewest 28 = .ok (.getfield 9, 3) := by decide +kernel
theorem dX9_fewest_31 : decode cX9_fewest 31 = .ok (.iconst 0, 1) := by decide +kernel
theorem dX9_fewest_32 : decode cX9_fewest 32 = .ok (.iaload, 1) := by decide +kernel
theorem dX9_fewest_33 : decode cX9_fewest 33 = .ok (.ishl, 1) := by decide +kernel
theorem dX9_fewest_34 : decode cX9_fewest 34 = .ok (.if_icmp .ge 93, 3) := by decide +kernel
theorem dX9_fewest_37 : decode cX9_fewest 37 = .ok (.iload_n 3, 1) := by decide +kernel
theorem dX9_fewest_38 : decode cX9_fewest 38 = .ok (.ifCond .lt 18, 3) := by decide +kernel
theorem dX9_fewest_41 : decode cX9_fewest 41 = .ok (.iload 4, 2) := by decide +kernel
theorem dX9_fewest_43 : decode cX9_fewest 43 = .ok (.invokestatic 52, 3) := by decide +kernel
theorem dX9_fewest_46 : decode cX9_fewest 46 = .ok (.iload_n 3, 1) := by decide +kernel
theorem dX9_fewest_47 : decode cX9_fewest 47 = .ok (.invokestatic 52, 3) := by decide +kernel
theorem dX9_fewest_50 : decode cX9_fewest 50 = .ok (.if_icmp .lt 6, 3) := by decide +kernel
theorem dX9_fewest_53 : decode cX9_fewest 53 = .ok (.goto 68, 3) := by decide +kernel
theorem dX9_fewest_56 : decode cX9_fewest 56 = .ok (.aload_n 0, 1) := by decide +kernel
theorem dX9_fewest_57 : decode cX9_fewest 57 = .ok (.getfield 9, 3) := by decide +kernel
theorem dX9_fewest_60 : decode cX9_fewest 60 = .ok (.aload_n 0, 1) := by decide +kernel
theorem dX9_fewest_61 : decode cX9_fewest 61 = .ok (.getfield 13, 3) := by decide +kernel
theorem dX9_fewest_64 : decode cX9_fewest 64 = .ok (.invokestatic 129, 3) := by decide +kernel
theorem dX9_fewest_67 : decode cX9_fewest 67 = .ok (.iconst 0, 1) := by decide +kernel
theorem dX9_fewest_68 : decode cX9_fewest 68 = .ok (.istore 5, 2) := by decide +kernel
theorem dX9_fewest_70 : decode cX9_fewest 70 = .ok (.iload 5, 2) := by decide +kernel
theorem dX9_fewest_72 : decode cX9_fewest 72 = .ok (.aload_n 0, 1) := by decide +kernel
theorem dX9_fewest_73 : decode cX9_fewest 73 = .ok (.getfield 9, 3) := by decide +kernel
theorem dX9_fewest_76 : decode cX9_fewest 76 = .ok (.iconst 0, 1) := by decide +kernel
theorem dX9_fewest_77 : decode cX9_fewest 77 = .ok (.iaload, 1) := by decide +kernel
theorem dX9_fewest_78 : decode cX9_fewest 78 = .ok (.if_icmp .ge 32, 3) := by decide +kernel
theorem dX9_fewest_81 : decode cX9_fewest 81 = .ok (.iload 4, 2) := by decide +kernel
theorem dX9_fewest_83 : decode cX9_fewest 83 = .ok (.iload 5, 2) := by decide +kernel
theorem dX9_fewest_85 : decode cX9_fewest 85 = .ok (.invokestatic 65, 3) := by decide +kernel
theorem dX9_fewest_88 : decode cX9_fewest 88 = .ok (.ifCond .eq 16, 3) := by decide +kernel
theorem dX9_fewest_91 : decode cX9_fewest 91 = .ok (.aload_n 0, 1) := by decide +kernel
theorem dX9_fewest_92 : decode cX9_fewest 92 = .ok (.getfield 13, 3) := by decide +kernel
theorem dX9_fewest_95 : decode cX9_fewest 95 = .ok (.iload 5, 2) := by decide +kernel
theorem dX9_fewest_97 : decode cX9_fewest 97 = .ok (.iconst 2, 1) := by decide +kernel
theorem dX9_fewest_98 : decode cX9_fewest 98 = .ok (.invokestatic 44, 3) := by decide +kernel
theorem dX9_fewest_101 : decode cX9_fewest 101 = .ok (.bipush 127, 2) := by decide +kernel
theorem dX9_fewest_103 : decode cX9_fewest 103 = .ok (.iastore, 1) := by decide +kernel
theorem dX9_fewest_104 : decode cX9_fewest 104 = .ok (.iinc 5 1, 3) := by decide +kernel
theorem dX9_fewest_107 : decode cX9_fewest 107 = .ok (.goto (-37), 3) := by decide +kernel
theorem dX9_fewest_110 : decode cX9_fewest 110 = .ok (.aload_n 0, 1) := by decide +kernel
theorem dX9_fewest_111 : decode cX9_fewest 111 = .ok (.iload_n 1, 1) := by decide +kernel
theorem dX9_fewest_112 : decode cX9_fewest 112 = .ok (.invokevirtual 173, 3) := by decide +kernel
theorem dX9_fewest_115 : decode cX9_fewest 115 = .ok (.ifCond .eq 6, 3) := by decide +kernel
theorem dX9_fewest_118 : decode cX9_fewest 118 = .ok (.iload 4, 2) := by decide +kernel
theorem dX9_fewest_120 : decode cX9_fewest 120 = .ok (.istore_n 3, 1) := by decide +kernel
theorem dX9_fewest_121 : decode cX9_fewest 121 = .ok (.iinc 4 1, 3) := by decide +kernel
theorem dX9_fewest_124 : decode cX9_fewest 124 = .ok (.goto (-100), 3) := by decide +kernel
theorem dX9_fewest_127 : decode cX9_fewest 127 = .ok (.iload_n 3, 1) := by decide +kernel
theorem dX9_fewest_128 : decode cX9_fewest 128 = .ok (.ireturn, 1) := by decide +kernel
theorem dX9_send_0 : decode cX9_send 0 = .ok (.iload_n 1, 1) := by decide +kernel
theorem dX9_send_1 : decode cX9_send 1 = .ok (.iconst 0, 1) := by decide +kernel
theorem dX9_send_2 : decode cX9_send 2 = .ok (.bipush 30, 2) := by decide +kernel
theorem dX9_send_4 : decode cX9_send 4 = .ok (.invokestatic 136, 3) := by decide +kernel
theorem dX9_send_7 : decode cX9_send 7 = .ok (.istore_n 2, 1) := by decide +kernel
theorem dX9_send_8 : decode cX9_send 8 = .ok (.iload_n 2, 1) := by decide +kernel
theorem dX9_send_9 : decode cX9_send 9 = .ok (.ifCond .eq 9, 3) := by decide +kernel
theorem dX9_send_12 : decode cX9_send 12 = .ok (.aload_n 0, 1) := by decide +kernel
theorem dX9_send_13 : decode cX9_send 13 = .ok (.iload_n 2, 1) := by decide +kernel
theorem dX9_send_14 : decode cX9_send 14 = .ok (.invokevirtual 36, 3) := by decide +kernel
theorem dX9_send_17 : decode cX9_send 17 = .ok (.ireturn, 1) := by decide +kernel
theorem dX9_send_18 : decode cX9_send 18 = .ok (.aload_n 0, 1) := by decide +kernel
theorem dX9_send_19 : decode cX9_send 19 = .ok (.iload_n 1, 1) := by decide +kernel
theorem dX9_send_20 : decode cX9_send 20 = .ok (.invokevirtual 140, 3) := by decide +kernel
theorem dX9_send_23 : decode cX9_send 23 = .ok (.aload_n 0, 1) := by decide +kernel
theorem dX9_send_24 : decode cX9_send 24 = .ok (.getfield 13, 3) := by decide +kernel
theorem dX9_send_27 : decode cX9_send 27 = .ok (.iconst 2, 1) := by decide +kernel
theorem dX9_send_28 : decode cX9_send 28 = .ok (.iaload, 1) := by decide +kernel
theorem dX9_send_29 : decode cX9_send 29 = .ok (.istore_n 3, 1) := by decide +kernel
theorem dX9_send_30 : decode cX9_send 30 = .ok (.bipush (-9), 2) := by decide +kernel
theorem dX9_send_32 : decode cX9_send 32 = .ok (.istore 4, 2) := by decide +kernel
theorem dX9_send_34 : decode cX9_send 34 = .ok (.iconst 0, 1) := by decide +kernel
theorem dX9_send_35 : decode cX9_send 35 = .ok (.istore 5, 2) := by decide +kernel
theorem dX9_send_37 : decode cX9_send 37 = .ok (.iload 5, 2) := by decide +kernel
theorem dX9_send_39 : decode cX9_send 39 = .ok (.aload_n 0, 1) := by decide +kernel
theorem dX9_send_40 : decode cX9_send 40 = .ok (.getfield 9, 3) := by decide +kernel
theorem dX9_send_43 : decode cX9_send 43 = .ok (.iconst 0, 1) := by decide +kernel
theorem dX9_send_44 : decode cX9_send 44 = .ok (.iaload, 1) := by decide +kernel
theorem dX9_send_45 : decode cX9_send 45 = .ok (.if_icmp .ge 65, 3) := by decide +kernel
theorem dX9_send_48 : decode cX9_send 48 = .ok (.aload_n 0, 1) := by decide +kernel
theorem dX9_send_49 : decode cX9_send 49 = .ok (.getfield 9, 3) := by decide +kernel
theorem dX9_send_52 : decode cX9_send 52 = .ok (.aload_n 0, 1) := by decide +kernel
theorem dX9_send_53 : decode cX9_send 53 = .ok (.getfield 13, 3) := by decide +kernel
theorem dX9_send_56 : decode cX9_send 56 = .ok (.invokestatic 129, 3) := by decide +kernel
theorem dX9_send_59 : decode cX9_send 59 = .ok (.aload_n 0, 1) := by decide +kernel
theorem dX9_send_60 : decode cX9_send 60 = .ok (.getfield 13, 3) := by decide +kernel
theorem dX9_send_63 : decode cX9_send 63 = .ok (.iload 5, 2) := by decide +kernel
theorem dX9_send_65 : decode cX9_send 65 = .ok (.iconst 2, 1) := by decide +kernel
theorem dX9_send_66 : decode cX9_send 66 = .ok (.invokestatic 44, 3) := by decide +kernel
theorem dX9_send_69 : decode cX9_send 69 = .ok (.bipush 127, 2) := by decide +kernel
theorem dX9_send_71 : decode cX9_send 71 = .ok (.iastore, 1) := by decide +kernel
theorem dX9_send_72 : decode cX9_send 72 = .ok (.aload_n 0, 1) := by decide +kernel
theorem dX9_send_73 : decode cX9_send 73 = .ok (.getfield 13, 3) := by decide +kernel
theorem dX9_send_76 : decode cX9_send 76 = .ok (.iload_n 1, 1) := by decide +kernel
theorem dX9_send_77 : decode cX9_send 77 = .ok (.invokestatic 123, 3) := by decide +kernel
theorem dX9_send_80 : decode cX9_send 80 = .ok (.aload_n 0, 1) := by decide +kernel
theorem dX9_send_81 : decode cX9_send 81 = .ok (.getfield 13, 3) := by decide +kernel
theorem dX9_send_84 : decode cX9_send 84 = .ok (.iconst 2, 1) := by decide +kernel
theorem dX9_send_85 : decode cX9_send 85 = .ok (.iaload, 1) := by decide +kernel
theorem dX9_send_86 : decode cX9_send 86 = .ok (.iload_n 3, 1) := by decide +kernel
theorem dX9_send_87 : decode cX9_send 87 = .ok (.if_icmp .lt 6, 3) := by decide +kernel
theorem dX9_send_90 : decode cX9_send 90 = .ok (.goto 14, 3) := by decide +kernel
theorem dX9_send_93 : decode cX9_send 93 = .ok (.iload 5, 2) := by decide +kernel
theorem dX9_send_95 : decode cX9_send 95 = .ok (.istore 4, 2) := by decide +kernel
theorem dX9_send_97 : decode cX9_send 97 = .ok (.aload_n 0, 1) := by decide +kernel
theorem dX9_send_98 : decode cX9_send 98 = .ok (.getfield 13, 3) := by decide +kernel
theorem dX9_send_101 : decode cX9_send 101 = .ok (.iconst 2, 1) := by decide +kernel
theorem dX9_send_102 : decode cX9_send 102 = .ok (.iaload, 1) := by decide +kernel
theorem dX9_send_103 : decode cX9_send 103 = .ok (.istore_n 3, 1) := by decide +kernel
theorem dX9_send_104 : decode cX9_send 104 = .ok (.iinc 5 1, 3) := by decide +kernel
theorem dX9_send_107 : decode cX9_send 107 = .ok (.goto (-70), 3) := by decide +kernel
theorem dX9_send_110 : decode cX9_send 110 = .ok (.iload 4, 2) := by decide +kernel
theorem dX9_send_112 : decode cX9_send 112 = .ok (.ireturn, 1) := by decide +kernel
theorem dX9_holiday_0 : decode cX9_holiday 0 = .ok (.iload_n 1, 1) := by decide +kernel
theorem dX9_holiday_1 : decode cX9_holiday 1 = .ok (.iconst 0, 1) := by decide +kernel
theorem dX9_holiday_2 : decode cX9_holiday 2 = .ok (.bipush 30, 2) := by decide +kernel
theorem dX9_holiday_4 : decode cX9_holiday 4 = .ok (.invokestatic 136, 3) := by decide +kernel
theorem dX9_holiday_7 : decode cX9_holiday 7 = .ok (.istore_n 3, 1) := by decide +kernel
theorem dX9_holiday_8 : decode cX9_holiday 8 = .ok (.iload_n 3, 1) := by decide +kernel
theorem dX9_holiday_9 : decode cX9_holiday 9 = .ok (.ifCond .ne 15, 3) := by decide +kernel
theorem dX9_holiday_12 : decode cX9_holiday 12 = .ok (.iload_n 2, 1) := by decide +kernel
theorem dX9_holiday_13 : decode cX9_holiday 13 = .ok (.iconst 0, 1) := by decide +kernel
theorem dX9_holiday_14 : decode cX9_holiday 14 = .ok (.iconst 1, 1) := by decide +kernel
theorem dX9_holiday_15 : decode cX9_holiday 15 = .ok (.invokestatic 40, 3) := by decide +kernel
theorem dX9_holiday_18 : decode cX9_holiday 18 = .ok (.ifCond .ne 6, 3) := by decide +kernel
theorem dX9_holiday_21 : decode cX9_holiday 21 = .ok (.bipush (-2), 2) := by decide +kernel
theorem dX9_holiday_23 : decode cX9_holiday 23 = .ok (.istore_n 3, 1) := by decide +kernel
theorem dX9_holiday_24 : decode cX9_holiday 24 = .ok (.iload_n 3, 1) := by decide +kernel
theorem dX9_holiday_25 : decode cX9_holiday 25 = .ok (.ifCond .eq 9, 3) := by decide +kernel
theorem dX9_holiday_28 : decode cX9_holiday 28 = .ok (.aload_n 0, 1) := by decide +kernel
theorem dX9_holiday_29 : decode cX9_holiday 29 = .ok (.iload_n 3, 1) := by decide +kernel
theorem dX9_holiday_30 : decode cX9_holiday 30 = .ok (.invokevirtual 36, 3) := by decide +kernel
theorem dX9_holiday_33 : decode cX9_holiday 33 = .ok (.ireturn, 1) := by decide +kernel
theorem dX9_holiday_34 : decode cX9_holiday 34 = .ok (.iconst 0, 1) := by decide +kernel
theorem dX9_holiday_35 : decode cX9_holiday 35 = .ok (.istore 4, 2) := by decide +kernel
theorem dX9_holiday_37 : decode cX9_holiday 37 = .ok (.ldc 147, 2) := by decide +kernel
theorem dX9_holiday_39 : decode cX9_holiday 39 = .ok (.istore 5, 2) := by decide +kernel
theorem dX9_holiday_41 : decode cX9_holiday 41 = .ok (.iconst 0, 1) := by decide +kernel
theorem dX9_holiday_42 : decode cX9_holiday 42 = .ok (.istore 6, 2) := by decide +kernel
theorem dX9_holiday_44 : decode cX9_holiday 44 = .ok (.iload 6, 2) := by decide +kernel
theorem dX9_holiday_46 : decode cX9_holiday 46 = .ok (.bipush 7, 2) := by decide +kernel
theorem dX9_holiday_48 : decode cX9_holiday 48 = .ok (.if_icmp .ge 94, 3) := by decide +kernel
theorem dX9_holiday_51 : decode cX9_holiday 51 = .ok (.aload_n 0, 1) := by decide +kernel
theorem dX9_holiday_52 : decode cX9_holiday 52 = .ok (.getfield 9, 3) := by decide +kernel
theorem dX9_holiday_55 : decode cX9_holiday 55 = .ok (.aload_n 0, 1) := by decide +kernel
theorem dX9_holiday_56 : decode cX9_holiday 56 = .ok (.getfield 13, 3) := by decide +kernel
theorem dX9_holiday_59 : decode cX9_holiday 59 = .ok (.invokestatic 129, 3) := by decide +kernel
theorem dX9_holiday_62 : decode cX9_holiday 62 = .ok (.iconst 0, 1) := by decide +kernel
theorem dX9_holiday_63 : decode cX9_holiday 63 = .ok (.istore 7, 2) := by decide +kernel
theorem dX9_holiday_65 : decode cX9_holiday 65 = .ok (.iload 7, 2) := by decide +kernel
theorem dX9_holiday_67 : decode cX9_holiday 67 = .ok (.aload_n 0, 1) := by decide +kernel
theorem dX9_holiday_68 : decode cX9_holiday 68 = .ok (.getfield 9, 3) := by decide +kernel
theorem dX9_holiday_71 : decode cX9_holiday 71 = .ok (.iconst 0, 1) := by decide +kernel
theorem dX9_holiday_72 : decode cX9_holiday 72 = .ok (.iaload, 1) := by decide +kernel
theorem dX9_holiday_73 : decode cX9_holiday 73 = .ok (.if_icmp .ge 27, 3) := by decide +kernel
theorem dX9_holiday_76 : decode cX9_holiday 76 = .ok (.aload_n 0, 1) := by decide +kernel
theorem dX9_holiday_77 : decode cX9_holiday 77 = .ok (.getfield 13, 3) := by decide +kernel
theorem dX9_holiday_80 : decode cX9_holiday 80 = .ok (.iload 7, 2) := by decide +kernel
theorem dX9_holiday_82 : decode cX9_holiday 82 = .ok (.iconst 2, 1) := by decide +kernel
theorem dX9_holiday_83 : decode cX9_holiday 83 = .ok (.invokestatic 44, 3) := by decide +kernel
theorem dX9_holiday_86 : decode cX9_holiday 86 = .ok (.dup2, 1) := by decide +kernel
theorem dX9_holiday_87 : decode cX9_holiday 87 = .ok (.iaload, 1) := by decide +kernel
theorem dX9_holiday_88 : decode cX9_holiday 88 = .ok (.iconst 1, 1) := by decide +kernel
theorem dX9_holiday_89 : decode cX9_holiday 89 = .ok (.iload 6, 2) := by decide +kernel
theorem dX9_holiday_91 : decode cX9_holiday 91 = .ok (.ishl, 1) := by decide +kernel
theorem dX9_holiday_92 : decode cX9_holiday 92 = .ok (.ior, 1) := by decide +kernel
theorem dX9_holiday_93 : decode cX9_holiday 93 = .ok (.iastore, 1) := by decide +kernel
theorem dX9_holiday_94 : decode cX9_holiday 94 = .ok (.iinc 7 1, 3) := by decide +kernel
theorem dX9_holiday_97 : decode cX9_holiday 97 = .ok (.goto (-32), 3) := by decide +kernel
theorem dX9_holiday_100 : decode cX9_holiday 100 = .ok (.aload_n 0, 1) := by decide +kernel
theorem dX9_holiday_101 : decode cX9_holiday 101 = .ok (.getfield 13, 3) := by decide +kernel
theorem dX9_holiday_104 : decode cX9_holiday 104 = .ok (.iload_n 1, 1) := by decide +kernel
theorem dX9_holiday_105 : decode cX9_holiday 105 = .ok (.invokestatic 123, 3) := by decide +kernel
theorem dX9_holiday_108 : decode cX9_holiday 108 = .ok (.aload_n 0, 1) := by decide +kernel
theorem dX9_holiday_109 : decode cX9_holiday 109 = .ok (.getfield 13, 3) := by decide +kernel
theorem dX9_holiday_112 : decode cX9_holiday 112 = .ok (.invokestatic 167, 3) := by decide +kernel
theorem dX9_holiday_115 : decode cX9_holiday 115 = .ok (.iload 5, 2) := by decide +kernel
theorem dX9_holiday_117 : decode cX9_holiday 117 = .ok (.if_icmp .lt 6, 3) := by decide +kernel
theorem dX9_holiday_120 : decode cX9_holiday 120 = .ok (.goto 16, 3) := by decide +kernel
theorem dX9_holiday_123 : decode cX9_holiday 123 = .ok (.iload 6, 2) := by decide +kernel
theorem dX9_holiday_125 : decode cX9_holiday 125 = .ok (.istore 4, 2) := by decide +kernel
theorem dX9_holiday_127 : decode cX9_holiday 127 = .ok (.aload_n 0, 1) := by decide +kernel
theorem dX9_holiday_128 : decode cX9_holiday 128 = .ok (.getfield 13, 3) := by decide +kernel
theorem dX9_holiday_131 : decode cX9_holiday 131 = .ok (.invokestatic 167, 3) := by decide +kernel
theorem dX9_holiday_134 : decode cX9_holiday 134 = .ok (.istore 5, 2) := by decide +kernel
theorem dX9_holiday_136 : decode cX9_holiday 136 = .ok (.iinc 6 1, 3) := by decide +kernel
theorem dX9_holiday_139 : decode cX9_holiday 139 = .ok (.goto (-95), 3) := by decide +kernel
theorem dX9_holiday_142 : decode cX9_holiday 142 = .ok (.iload_n 2, 1) := by decide +kernel
theorem dX9_holiday_143 : decode cX9_holiday 143 = .ok (.ifCond .ne 8, 3) := by decide +kernel
theorem dX9_holiday_146 : decode cX9_holiday 146 = .ok (.iload 4, 2) := by decide +kernel
theorem dX9_holiday_148 : decode cX9_holiday 148 = .ok (.goto 5, 3) := by decide +kernel
theorem dX9_holiday_151 : decode cX9_holiday 151 = .ok (.iload 5, 2) := by decide +kernel
theorem dX9_holiday_153 : decode cX9_holiday 153 = .ok (.ireturn, 1) := by decide +kernel
theorem dX9_costBy_0 : decode cX9_costBy 0 = .ok (.aload_n 0, 1) := by decide +kernel
theorem dX9_costBy_1 : decode cX9_costBy 1 = .ok (.getfield 9, 3) := by decide +kernel
theorem dX9_costBy_4 : decode cX9_costBy 4 = .ok (.aload_n 0, 1) := by decide +kernel
theorem dX9_costBy_5 : decode cX9_costBy 5 = .ok (.getfield 13, 3) := by decide +kernel
theorem dX9_costBy_8 : decode cX9_costBy 8 = .ok (.invokestatic 129, 3) := by decide +kernel
theorem dX9_costBy_11 : decode cX9_costBy 11 = .ok (.iconst 0, 1) := by decide +kernel
theorem dX9_costBy_12 : decode cX9_costBy 12 = .ok (.istore 7, 2) := by decide +kernel
theorem dX9_costBy_14 : decode cX9_costBy 14 = .ok (.iload 7, 2) := by decide +kernel
theorem dX9_costBy_16 : decode cX9_costBy 16 = .ok (.iload 6, 2) := by decide +kernel
theorem dX9_costBy_18 : decode cX9_costBy 18 = .ok (.if_icmp .ge 25, 3) := by decide +kernel
theorem dX9_costBy_21 : decode cX9_costBy 21 = .ok (.aload_n 0, 1) := by decide +kernel
theorem dX9_costBy_22 : decode cX9_costBy 22 = .ok (.getfield 13, 3) := by decide +kernel
theorem dX9_costBy_25 : decode cX9_costBy 25 = .ok (.iload_n 3, 1) := by decide +kernel
theorem dX9_costBy_26 : decode cX9_costBy 26 = .ok (.iload_n 2, 1) := by decide +kernel
theorem dX9_costBy_27 : decode cX9_costBy 27 = .ok (.ishl, 1) := by decide +kernel
theorem dX9_costBy_28 : decode cX9_costBy 28 = .ok (.iload 5, 2) := by decide +kernel
theorem dX9_costBy_30 : decode cX9_costBy 30 = .ok (.iload 4, 2) := by decide +kernel
theorem dX9_costBy_32 : decode cX9_costBy 32 = .ok (.ishl, 1) := by decide +kernel
theorem dX9_costBy_33 : decode cX9_costBy 33 = .ok (.ior, 1) := by decide +kernel
theorem dX9_costBy_34 : decode cX9_costBy 34 = .ok (.invokestatic 89, 3) := by decide +kernel
theorem dX9_costBy_37 : decode cX9_costBy 37 = .ok (.iinc 7 1, 3) := by decide +kernel
theorem dX9_costBy_40 : decode cX9_costBy 40 = .ok (.goto (-26), 3) := by decide +kernel
theorem dX9_costBy_43 : decode cX9_costBy 43 = .ok (.aload_n 0, 1) := by decide +kernel
theorem dX9_costBy_44 : decode cX9_costBy 44 = .ok (.getfield 13, 3) := by decide +kernel
theorem dX9_costBy_47 : decode cX9_costBy 47 = .ok (.iload_n 1, 1) := by decide +kernel
theorem dX9_costBy_48 : decode cX9_costBy 48 = .ok (.iconst 3, 1) := by decide +kernel
theorem dX9_costBy_49 : decode cX9_costBy 49 = .ok (.invokestatic 44, 3) := by decide +kernel
theorem dX9_costBy_52 : decode cX9_costBy 52 = .ok (.iaload, 1) := by decide +kernel
theorem dX9_costBy_53 : decode cX9_costBy 53 = .ok (.iconst 2, 1) := by decide +kernel
theorem dX9_costBy_54 : decode cX9_costBy 54 = .ok (.iload_n 1, 1) := by decide +kernel
theorem dX9_costBy_55 : decode cX9_costBy 55 = .ok (.iload_n 2, 1) := by decide +kernel
theorem dX9_costBy_56 : decode cX9_costBy 56 = .ok (.if_icmp .ne 7, 3) := by decide +kernel
theorem dX9_costBy_59 : decode cX9_costBy 59 = .ok (.iload_n 3, 1) := by decide +kernel
theorem dX9_costBy_60 : decode cX9_costBy 60 = .ok (.goto 5, 3) := by decide +kernel
theorem dX9_costBy_63 : decode cX9_costBy 63 = .ok (.iload 5, 2) := by decide +kernel
theorem dX9_costBy_65 : decode cX9_costBy 65 = .ok (.imul, 1) := by decide +kernel
theorem dX9_costBy_66 : decode cX9_costBy 66 = .ok (.isub, 1) := by decide +kernel
theorem dX9_costBy_67 : decode cX9_costBy 67 = .ok (.ireturn, 1) := by decide +kernel
theorem dX9_two_0 : decode cX9_two 0 = .ok (.aload_n 0, 1) := by decide +kernel
theorem dX9_two_1 : decode cX9_two 1 = .ok (.iload_n 1, 1) := by decide +kernel
theorem dX9_two_2 : decode cX9_two 2 = .ok (.invokevirtual 113, 3) := by decide +kernel
theorem dX9_two_5 : decode cX9_two 5 = .ok (.ifCond .eq 26, 3) := by decide +kernel
theorem dX9_two_8 : decode cX9_two 8 = .ok (.aload_n 0, 1) := by decide +kernel
theorem dX9_two_9 : decode cX9_two 9 = .ok (.iload_n 2, 1) := by decide +kernel
theorem dX9_two_10 : decode cX9_two 10 = .ok (.invokevirtual 113, 3) := by decide +kernel
theorem dX9_two_13 : decode cX9_two 13 = .ok (.ifCond .eq 18, 3) := by decide +kernel
theorem dX9_two_16 : decode cX9_two 16 = .ok (.iload_n 1, 1) := by decide +kernel
theorem dX9_two_17 : decode cX9_two 17 = .ok (.iload_n 2, 1) := by decide +kernel
theorem dX9_two_18 : decode cX9_two 18 = .ok (.if_icmp .eq 13, 3) := by decide +kernel
theorem dX9_two_21 : decode cX9_two 21 = .ok (.iload_n 3, 1) := by decide +kernel
theorem dX9_two_22 : decode cX9_two 22 = .ok (.iconst 0, 1) := by decide +kernel
theorem dX9_two_23 : decode cX9_two 23 = .ok (.bipush 30, 2) := by decide +kernel
theorem dX9_two_25 : decode cX9_two 25 = .ok (.invokestatic 136, 3) := by decide +kernel
theorem dX9_two_28 : decode cX9_two 28 = .ok (.goto 4, 3) := by decide +kernel
theorem dX9_two_31 : decode cX9_two 31 = .ok (.iconst (-1), 1) := by decide +kernel
theorem dX9_two_32 : decode cX9_two 32 = .ok (.istore 4, 2) := by decide +kernel
theorem dX9_two_34 : decode cX9_two 34 = .ok (.iload 4, 2) := by decide +kernel
theorem dX9_two_36 : decode cX9_two 36 = .ok (.ifCond .eq 10, 3) := by decide +kernel
theorem dX9_two_39 : decode cX9_two 39 = .ok (.aload_n 0, 1) := by decide +kernel
theorem dX9_two_40 : decode cX9_two 40 = .ok (.iload 4, 2) := by decide +kernel
theorem dX9_two_42 : decode cX9_two 42 = .ok (.invokevirtual 36, 3) := by decide +kernel
theorem dX9_two_45 : decode cX9_two 45 = .ok (.ireturn, 1) := by decide +kernel
theorem dX9_two_46 : decode cX9_two 46 = .ok (.iconst 0, 1) := by decide +kernel
theorem dX9_two_47 : decode cX9_two 47 = .ok (.istore 5, 2) := by decide +kernel
theorem dX9_two_49 : decode cX9_two 49 = .ok (.iload 5, 2) := by decide +kernel
theorem dX9_two_51 : decode cX9_two 51 = .ok (.iconst 4, 1) := by decide +kernel
theorem dX9_two_52 : decode cX9_two 52 = .ok (.if_icmp .ge 88, 3) := by decide +kernel
theorem dX9_two_55 : decode cX9_two 55 = .ok (.iload 5, 2) := by decide +kernel
theorem dX9_two_57 : decode cX9_two 57 = .ok (.iconst 2, 1) := by decide +kernel
theorem dX9_two_58 : decode cX9_two 58 = .ok (.idiv, 1) := by decide +kernel
theorem dX9_two_59 : decode cX9_two 59 = .ok (.istore 6, 2) := by decide +kernel
theorem dX9_two_61 : decode cX9_two 61 = .ok (.iload 5, 2) := by decide +kernel
theorem dX9_two_63 : decode cX9_two 63 = .ok (.iconst 2, 1) := by decide +kernel
theorem dX9_two_64 : decode cX9_two 64 = .ok (.irem, 1) := by decide +kernel
theorem dX9_two_65 : decode cX9_two 65 = .ok (.istore 7, 2) := by decide +kernel
theorem dX9_two_67 : decode cX9_two 67 = .ok (.aload_n 0, 1) := by decide +kernel
theorem dX9_two_68 : decode cX9_two 68 = .ok (.iload_n 1, 1) := by decide +kernel
theorem dX9_two_69 : decode cX9_two 69 = .ok (.iload_n 1, 1) := by decide +kernel
theorem dX9_two_70 : decode cX9_two 70 = .ok (.iconst 1, 1) := by decide +kernel
theorem dX9_two_71 : decode cX9_two 71 = .ok (.iload 6, 2) := by decide +kernel
theorem dX9_two_73 : decode cX9_two 73 = .ok (.isub, 1) := by decide +kernel
theorem dX9_two_74 : decode cX9_two 74 = .ok (.iload_n 2, 1) := by decide +kernel
theorem dX9_two_75 : decode cX9_two 75 = .ok (.iload 7, 2) := by decide +kernel
theorem dX9_two_77 : decode cX9_two 77 = .ok (.iload_n 3, 1) := by decide +kernel
theorem dX9_two_78 : decode cX9_two 78 = .ok (.invokevirtual 176, 3) := by decide +kernel
theorem dX9_two_81 : decode cX9_two 81 = .ok (.aload_n 0, 1) := by decide +kernel
theorem dX9_two_82 : decode cX9_two 82 = .ok (.iload_n 1, 1) := by decide +kernel
theorem dX9_two_83 : decode cX9_two 83 = .ok (.iload_n 1, 1) := by decide +kernel
theorem dX9_two_84 : decode cX9_two 84 = .ok (.iload 6, 2) := by decide +kernel
theorem dX9_two_86 : decode cX9_two 86 = .ok (.iload_n 2, 1) := by decide +kernel
theorem dX9_two_87 : decode cX9_two 87 = .ok (.iload 7, 2) := by decide +kernel
theorem dX9_two_89 : decode cX9_two 89 = .ok (.iload_n 3, 1) := by decide +kernel
theorem dX9_two_90 : decode cX9_two 90 = .ok (.invokevirtual 176, 3) := by decide +kernel
theorem dX9_two_93 : decode cX9_two 93 = .ok (.if_icmp .lt 41, 3) := by decide +kernel
theorem dX9_two_96 : decode cX9_two 96 = .ok (.aload_n 0, 1) := by decide +kernel
theorem dX9_two_97 : decode cX9_two 97 = .ok (.iload_n 2, 1) := by decide +kernel
theorem dX9_two_98 : decode cX9_two 98 = .ok (.iload_n 1, 1) := by decide +kernel
theorem dX9_two_99 : decode cX9_two 99 = .ok (.iload 6, 2) := by decide +kernel
theorem dX9_two_101 : decode cX9_two 101 = .ok (.iload_n 2, 1) := by decide +kernel
theorem dX9_two_102 : decode cX9_two 102 = .ok (.iconst 1, 1) := by decide +kernel
theorem dX9_two_103 : decode cX9_two 103 = .ok (.iload 7, 2) := by decide +kernel
theorem dX9_two_105 : decode cX9_two 105 = .ok (.isub, 1) := by decide +kernel
theorem dX9_two_106 : decode cX9_two 106 = .ok (.iload_n 3, 1) := by decide +kernel
theorem dX9_two_107 : decode cX9_two 107 = .ok (.invokevirtual 176, 3) := by decide +kernel
theorem dX9_two_110 : decode cX9_two 110 = .ok (.aload_n 0, 1) := by decide +kernel
theorem dX9_two_111 : decode cX9_two 111 = .ok (.iload_n 2, 1) := by decide +kernel
theorem dX9_two_112 : decode cX9_two 112 = .ok (.iload_n 1, 1) := by decide +kernel
theorem dX9_two_113 : decode cX9_two 113 = .ok (.iload 6, 2) := by decide +kernel
theorem dX9_two_115 : decode cX9_two 115 = .ok (.iload_n 2, 1) := by decide +kernel
theorem dX9_two_116 : decode cX9_two 116 = .ok (.iload 7, 2) := by decide +kernel
theorem dX9_two_118 : decode cX9_two 118 = .ok (.iload_n 3, 1) := by decide +kernel
theorem dX9_two_119 : decode cX9_two 119 = .ok (.invokevirtual 176, 3) := by decide +kernel
theorem dX9_two_122 : decode cX9_two 122 = .ok (.if_icmp .lt 12, 3) := by decide +kernel
theorem dX9_two_125 : decode cX9_two 125 = .ok (.bipush 10, 2) := by decide +kernel
theorem dX9_two_127 : decode cX9_two 127 = .ok (.iload 6, 2) := by decide +kernel
theorem dX9_two_129 : decode cX9_two 129 = .ok (.imul, 1) := by decide +kernel
theorem dX9_two_130 : decode cX9_two 130 = .ok (.iload 7, 2) := by decide +kernel
theorem dX9_two_132 : decode cX9_two 132 = .ok (.iadd, 1) := by decide +kernel
theorem dX9_two_133 : decode cX9_two 133 = .ok (.ireturn, 1) := by decide +kernel
theorem dX9_two_134 : decode cX9_two 134 = .ok (.iinc 5 1, 3) := by decide +kernel
theorem dX9_two_137 : decode cX9_two 137 = .ok (.goto (-88), 3) := by decide +kernel
theorem dX9_two_140 : decode cX9_two 140 = .ok (.bipush (-9), 2) := by decide +kernel
theorem dX9_two_142 : decode cX9_two 142 = .ok (.ireturn, 1) := by decide +kernel
theorem dX9_gcd_0 : decode cX9_gcd 0 = .ok (.lload_n 0, 1) := by decide +kernel
theorem dX9_gcd_1 : decode cX9_gcd 1 = .ok (.lstore 4, 2) := by decide +kernel
theorem dX9_gcd_3 : decode cX9_gcd 3 = .ok (.lload_n 2, 1) := by decide +kernel
theorem dX9_gcd_4 : decode cX9_gcd 4 = .ok (.lstore 6, 2) := by decide +kernel
theorem dX9_gcd_6 : decode cX9_gcd 6 = .ok (.lload 6, 2) := by decide +kernel
theorem dX9_gcd_8 : decode cX9_gcd 8 = .ok (.lconst 0, 1) := by decide +kernel
theorem dX9_gcd_9 : decode cX9_gcd 9 = .ok (.lcmp, 1) := by decide +kernel
theorem dX9_gcd_10 : decode cX9_gcd 10 = .ok (.ifCond .eq 21, 3) := by decide +kernel
theorem dX9_gcd_13 : decode cX9_gcd 13 = .ok (.lload 4, 2) := by decide +kernel
theorem dX9_gcd_15 : decode cX9_gcd 15 = .ok (.lload 6, 2) := by decide +kernel
theorem dX9_gcd_17 : decode cX9_gcd 17 = .ok (.lrem, 1) := by decide +kernel
theorem dX9_gcd_18 : decode cX9_gcd 18 = .ok (.lstore 8, 2) := by decide +kernel
theorem dX9_gcd_20 : decode cX9_gcd 20 = .ok (.lload 6, 2) := by decide +kernel
theorem dX9_gcd_22 : decode cX9_gcd 22 = .ok (.lstore 4, 2) := by decide +kernel
theorem dX9_gcd_24 : decode cX9_gcd 24 = .ok (.lload 8, 2) := by decide +kernel
theorem dX9_gcd_26 : decode cX9_gcd 26 = .ok (.lstore 6, 2) := by decide +kernel
theorem dX9_gcd_28 : decode cX9_gcd 28 = .ok (.goto (-22), 3) := by decide +kernel
theorem dX9_gcd_31 : decode cX9_gcd 31 = .ok (.lload 4, 2) := by decide +kernel
theorem dX9_gcd_33 : decode cX9_gcd 33 = .ok (.lreturn, 1) := by decide +kernel
theorem dX9_partOf_0 : decode cX9_partOf 0 = .ok (.lload_n 0, 1) := by decide +kernel
theorem dX9_partOf_1 : decode cX9_partOf 1 = .ok (.lconst 0, 1) := by decide +kernel
theorem dX9_partOf_2 : decode cX9_partOf 2 = .ok (.lcmp, 1) := by decide +kernel
theorem dX9_partOf_3 : decode cX9_partOf 3 = .ok (.ifCond .ne 7, 3) := by decide +kernel
theorem dX9_partOf_6 : decode cX9_partOf 6 = .ok (.iload 4, 2) := by decide +kernel
theorem dX9_partOf_8 : decode cX9_partOf 8 = .ok (.i2l, 1) := by decide +kernel
theorem dX9_partOf_9 : decode cX9_partOf 9 = .ok (.lreturn, 1) := by decide +kernel
theorem dX9_partOf_10 : decode cX9_partOf 10 = .ok (.iload 4, 2) := by decide +kernel
theorem dX9_partOf_12 : decode cX9_partOf 12 = .ok (.ifCond .ne 7, 3) := by decide +kernel
theorem dX9_partOf_15 : decode cX9_partOf 15 = .ok (.lload_n 0, 1) := by decide +kernel
theorem dX9_partOf_16 : decode cX9_partOf 16 = .ok (.goto 4, 3) := by decide +kernel
theorem dX9_partOf_19 : decode cX9_partOf 19 = .ok (.lload_n 2, 1) := by decide +kernel
theorem dX9_partOf_20 : decode cX9_partOf 20 = .ok (.lload_n 0, 1) := by decide +kernel
theorem dX9_partOf_21 : decode cX9_partOf 21 = .ok (.lload_n 2, 1) := by decide +kernel
theorem dX9_partOf_22 : decode cX9_partOf 22 = .ok (.invokestatic 180, 3) := by decide +kernel
theorem dX9_partOf_25 : decode cX9_partOf 25 = .ok (.ldiv, 1) := by decide +kernel
theorem dX9_partOf_26 : decode cX9_partOf 26 = .ok (.lreturn, 1) := by decide +kernel
theorem dX9_fever_0 : decode cX9_fever 0 = .ok (.aload_n 0, 1) := by decide +kernel
theorem dX9_fever_1 : decode cX9_fever 1 = .ok (.iload_n 1, 1) := by decide +kernel
theorem dX9_fever_2 : decode cX9_fever 2 = .ok (.invokevirtual 113, 3) := by decide +kernel
theorem dX9_fever_5 : decode cX9_fever 5 = .ok (.ifCond .ne 9, 3) := by decide +kernel
theorem dX9_fever_8 : decode cX9_fever 8 = .ok (.aload_n 0, 1) := by decide +kernel
theorem dX9_fever_9 : decode cX9_fever 9 = .ok (.iconst (-1), 1) := by decide +kernel
theorem dX9_fever_10 : decode cX9_fever 10 = .ok (.invokevirtual 184, 3) := by decide +kernel
theorem dX9_fever_13 : decode cX9_fever 13 = .ok (.lreturn, 1) := by decide +kernel
theorem dX9_fever_14 : decode cX9_fever 14 = .ok (.iload_n 2, 1) := by decide +kernel
theorem dX9_fever_15 : decode cX9_fever 15 = .ok (.ifCond .lt 13, 3) := by decide +kernel
theorem dX9_fever_18 : decode cX9_fever 18 = .ok (.iload 4, 2) := by decide +kernel
theorem dX9_fever_20 : decode cX9_fever 20 = .ok (.ifCond .lt 8, 3) := by decide +kernel
theorem dX9_fever_23 : decode cX9_fever 23 = .ok (.iload_n 3, 1) := by decide +kernel
theorem dX9_fever_24 : decode cX9_fever 24 = .ok (.iconst 2, 1) := by decide +kernel
theorem dX9_fever_25 : decode cX9_fever 25 = .ok (.if_icmp .ge 10, 3) := by decide +kernel
theorem dX9_fever_28 : decode cX9_fever 28 = .ok (.aload_n 0, 1) := by decide +kernel
theorem dX9_fever_29 : decode cX9_fever 29 = .ok (.bipush (-4), 2) := by decide +kernel
theorem dX9_fever_31 : decode cX9_fever 31 = .ok (.invokevirtual 184, 3) := by decide +kernel
theorem dX9_fever_34 : decode cX9_fever 34 = .ok (.lreturn, 1) := by decide +kernel
theorem dX9_fever_35 : decode cX9_fever 35 = .ok (.iload_n 2, 1) := by decide +kernel
theorem dX9_fever_36 : decode cX9_fever 36 = .ok (.bipush 7, 2) := by decide +kernel
theorem dX9_fever_38 : decode cX9_fever 38 = .ok (.if_icmp .gt 16, 3) := by decide +kernel
theorem dX9_fever_41 : decode cX9_fever 41 = .ok (.iload_n 3, 1) := by decide +kernel
theorem dX9_fever_42 : decode cX9_fever 42 = .ok (.bipush 20, 2) := by decide +kernel
theorem dX9_fever_44 : decode cX9_fever 44 = .ok (.if_icmp .gt 10, 3) := by decide +kernel
theorem dX9_fever_47 : decode cX9_fever 47 = .ok (.iload 4, 2) := by decide +kernel
theorem dX9_fever_49 : decode cX9_fever 49 = .ok (.bipush 30, 2) := by decide +kernel
theorem dX9_fever_51 : decode cX9_fever 51 = .ok (.if_icmp .le 10, 3) := by decide +kernel
theorem dX9_fever_54 : decode cX9_fever 54 = .ok (.aload_n 0, 1) := by decide +kernel
theorem dX9_fever_55 : decode cX9_fever 55 = .ok (.bipush (-6), 2) := by decide +kernel
theorem dX9_fever_57 : decode cX9_fever 57 = .ok (.invokevirtual 184, 3) := by decide +kernel
theorem dX9_fever_60 : decode cX9_fever 60 = .ok (.lreturn, 1) := by decide +kernel
theorem dX9_fever_61 : decode cX9_fever 61 = .ok (.iload 5, 2) := by decide +kernel
theorem dX9_fever_63 : decode cX9_fever 63 = .ok (.iconst 0, 1) := by decide +kernel
theorem dX9_fever_64 : decode cX9_fever 64 = .ok (.iconst 1, 1) := by decide +kernel
theorem dX9_fever_65 : decode cX9_fever 65 = .ok (.invokestatic 40, 3) := by decide +kernel
theorem dX9_fever_68 : decode cX9_fever 68 = .ok (.ifCond .ne 10, 3) := by decide +kernel
theorem dX9_fever_71 : decode cX9_fever 71 = .ok (.aload_n 0, 1) := by decide +kernel
theorem dX9_fever_72 : decode cX9_fever 72 = .ok (.bipush (-2), 2) := by decide +kernel
theorem dX9_fever_74 : decode cX9_fever 74 = .ok (.invokevirtual 184, 3) := by decide +kernel
theorem dX9_fever_77 : decode cX9_fever 77 = .ok (.lreturn, 1) := by decide +kernel
theorem dX9_fever_78 : decode cX9_fever 78 = .ok (.lconst 0, 1) := by decide +kernel
theorem dX9_fever_79 : decode cX9_fever 79 = .ok (.lstore 6, 2) := by decide +kernel
theorem dX9_fever_81 : decode cX9_fever 81 = .ok (.lconst 1, 1) := by decide +kernel
theorem dX9_fever_82 : decode cX9_fever 82 = .ok (.lstore 8, 2) := by decide +kernel
theorem dX9_fever_84 : decode cX9_fever 84 = .ok (.iconst 0, 1) := by decide +kernel
theorem dX9_fever_85 : decode cX9_fever 85 = .ok (.istore 10, 2) := by decide +kernel
theorem dX9_fever_87 : decode cX9_fever 87 = .ok (.iload 10, 2) := by decide +kernel
theorem dX9_fever_89 : decode cX9_fever 89 = .ok (.iload_n 2, 1) := by decide +kernel
theorem dX9_fever_90 : decode cX9_fever 90 = .ok (.if_icmp .ge 16, 3) := by decide +kernel
theorem dX9_fever_93 : decode cX9_fever 93 = .ok (.lload 8, 2) := by decide +kernel
theorem dX9_fever_95 : decode cX9_fever 95 = .ok (.iload_n 3, 1) := by decide +kernel
theorem dX9_fever_96 : decode cX9_fever 96 = .ok (.i2l, 1) := by decide +kernel
theorem dX9_fever_97 : decode cX9_fever 97 = .ok (.lmul, 1) := by decide +kernel
theorem dX9_fever_98 : decode cX9_fever 98 = .ok (.lstore 8, 2) := by decide +kernel
theorem dX9_fever_100 : decode cX9_fever 100 = .ok (.iinc 10 1, 3) := by decide +kernel
theorem dX9_fever_103 : decode cX9_fever 103 = .ok (.goto (-16), 3) := by decide +kernel
theorem dX9_fever_106 : decode cX9_fever 106 = .ok (.iconst 0, 1) := by decide +kernel
theorem dX9_fever_107 : decode cX9_fever 107 = .ok (.istore 10, 2) := by decide +kernel
theorem dX9_fever_109 : decode cX9_fever 109 = .ok (.iload 10, 2) := by decide +kernel
theorem dX9_fever_111 : decode cX9_fever 111 = .ok (.iconst 1, 1) := by decide +kernel
theorem dX9_fever_112 : decode cX9_fever 112 = .ok (.iload_n 2, 1) := by decide +kernel
theorem dX9_fever_113 : decode cX9_fever 113 = .ok (.ishl, 1) := by decide +kernel
theorem dX9_fever_114 : decode cX9_fever 114 = .ok (.if_icmp .ge 109, 3) := by decide +kernel
theorem dX9_fever_117 : decode cX9_fever 117 = .ok (.lconst 1, 1) := by decide +kernel
theorem dX9_fever_118 : decode cX9_fever 118 = .ok (.lstore 11, 2) := by decide +kernel
theorem dX9_fever_120 : decode cX9_fever 120 = .ok (.aload_n 0, 1) := by decide +kernel
theorem dX9_fever_121 : decode cX9_fever 121 = .ok (.getfield 9, 3) := by decide +kernel
theorem dX9_fever_124 : decode cX9_fever 124 = .ok (.aload_n 0, 1) := by decide +kernel
theorem dX9_fever_125 : decode cX9_fever 125 = .ok (.getfield 13, 3) := by decide +kernel
theorem dX9_fever_128 : decode cX9_fever 128 = .ok (.invokestatic 129, 3) := by decide +kernel
theorem dX9_fever_131 : decode cX9_fever 131 = .ok (.iconst 0, 1) := by decide +kernel
theorem dX9_fever_132 : decode cX9_fever 132 = .ok (.istore 13, 2) := by decide +kernel
theorem dX9_fever_134 : decode cX9_fever 134 = .ok (.iload 13, 2) := by decide +kernel
theorem dX9_fever_136 : decode cX9_fever 136 = .ok (.iload_n 2, 1) := by decide +kernel
theorem dX9_fever_137 : decode cX9_fever 137 = .ok (.if_icmp .ge 54, 3) := by decide +kernel
theorem dX9_fever_140 : decode cX9_fever 140 = .ok (.lload 11, 2) := by decide +kernel
theorem dX9_fever_142 : decode cX9_fever 142 = .ok (.iload 10, 2) := by decide +kernel
theorem dX9_fever_144 : decode cX9_fever 144 = .ok (.iload 13, 2) := by decide +kernel
theorem dX9_fever_146 : decode cX9_fever 146 = .ok (.invokestatic 65, 3) := by decide +kernel
theorem dX9_fever_149 : decode cX9_fever 149 = .ok (.ifCond .eq 7, 3) := by decide +kernel
theorem dX9_fever_152 : decode cX9_fever 152 = .ok (.lconst 1, 1) := by decide +kernel
theorem dX9_fever_153 : decode cX9_fever 153 = .ok (.goto 7, 3) := by decide +kernel
theorem dX9_fever_156 : decode cX9_fever 156 = .ok (.iload_n 3, 1) := by decide +kernel
theorem dX9_fever_157 : decode cX9_fever 157 = .ok (.iconst 1, 1) := by decide +kernel
theorem dX9_fever_158 : decode cX9_fever 158 = .ok (.isub, 1) := by decide +kernel
theorem dX9_fever_159 : decode cX9_fever 159 = .ok (.i2l, 1) := by decide +kernel
theorem dX9_fever_160 : decode cX9_fever 160 = .ok (.lmul, 1) := by decide +kernel
theorem dX9_fever_161 : decode cX9_fever 161 = .ok (.lstore 11, 2) := by decide +kernel
theorem dX9_fever_163 : decode cX9_fever 163 = .ok (.aload_n 0, 1) := by decide +kernel
theorem dX9_fever_164 : decode cX9_fever 164 = .ok (.getfield 13, 3) := by decide +kernel
theorem dX9_fever_167 : decode cX9_fever 167 = .ok (.iload 10, 2) := by decide +kernel
theorem dX9_fever_169 : decode cX9_fever 169 = .ok (.iload 13, 2) := by decide +kernel
theorem dX9_fever_171 : decode cX9_fever 171 = .ok (.invokestatic 65, 3) := by decide +kernel
theorem dX9_fever_174 : decode cX9_fever 174 = .ok (.ifCond .eq 7, 3) := by decide +kernel
theorem dX9_fever_177 : decode cX9_fever 177 = .ok (.iconst (-1), 1) := by decide +kernel
theorem dX9_fever_178 : decode cX9_fever 178 = .ok (.goto 4, 3) := by decide +kernel
theorem dX9_fever_181 : decode cX9_fever 181 = .ok (.iconst 0, 1) := by decide +kernel
theorem dX9_fever_182 : decode cX9_fever 182 = .ok (.invokestatic 89, 3) := by decide +kernel
theorem dX9_fever_185 : decode cX9_fever 185 = .ok (.iinc 13 1, 3) := by decide +kernel
theorem dX9_fever_188 : decode cX9_fever 188 = .ok (.goto (-54), 3) := by decide +kernel
theorem dX9_fever_191 : decode cX9_fever 191 = .ok (.lload 6, 2) := by decide +kernel
theorem dX9_fever_193 : decode cX9_fever 193 = .ok (.aload_n 0, 1) := by decide +kernel
theorem dX9_fever_194 : decode cX9_fever 194 = .ok (.getfield 13, 3) := by decide +kernel
theorem dX9_fever_197 : decode cX9_fever 197 = .ok (.iload_n 1, 1) := by decide +kernel
theorem dX9_fever_198 : decode cX9_fever 198 = .ok (.iconst 3, 1) := by decide +kernel
theorem dX9_fever_199 : decode cX9_fever 199 = .ok (.invokestatic 44, 3) := by decide +kernel
theorem dX9_fever_202 : decode cX9_fever 202 = .ok (.iaload, 1) := by decide +kernel
theorem dX9_fever_203 : decode cX9_fever 203 = .ok (.iload 4, 2) := by decide +kernel
theorem dX9_fever_205 : decode cX9_fever 205 = .ok (.if_icmp .lt 8, 3) := by decide +kernel
theorem dX9_fever_208 : decode cX9_fever 208 = .ok (.lload 11, 2) := by decide +kernel
theorem dX9_fever_210 : decode cX9_fever 210 = .ok (.goto 4, 3) := by decide +kernel
theorem dX9_fever_213 : decode cX9_fever 213 = .ok (.lconst 0, 1) := by decide +kernel
theorem dX9_fever_214 : decode cX9_fever 214 = .ok (.ladd, 1) := by decide +kernel
theorem dX9_fever_215 : decode cX9_fever 215 = .ok (.lstore 6, 2) := by decide +kernel
theorem dX9_fever_217 : decode cX9_fever 217 = .ok (.iinc 10 1, 3) := by decide +kernel
theorem dX9_fever_220 : decode cX9_fever 220 = .ok (.goto (-111), 3) := by decide +kernel
theorem dX9_fever_223 : decode cX9_fever 223 = .ok (.lload 6, 2) := by decide +kernel
theorem dX9_fever_225 : decode cX9_fever 225 = .ok (.lload 8, 2) := by decide +kernel
theorem dX9_fever_227 : decode cX9_fever 227 = .ok (.iload 5, 2) := by decide +kernel
theorem dX9_fever_229 : decode cX9_fever 229 = .ok (.invokestatic 188, 3) := by decide +kernel
theorem dX9_fever_232 : decode cX9_fever 232 = .ok (.lreturn, 1) := by decide +kernel
theorem dX9_mean_0 : decode cX9_mean 0 = .ok (.iload_n 1, 1) := by decide +kernel
theorem dX9_mean_1 : decode cX9_mean 1 = .ok (.iconst 0, 1) := by decide +kernel
theorem dX9_mean_2 : decode cX9_mean 2 = .ok (.iconst 1, 1) := by decide +kernel
theorem dX9_mean_3 : decode cX9_mean 3 = .ok (.invokestatic 40, 3) := by decide +kernel
theorem dX9_mean_6 : decode cX9_mean 6 = .ok (.ifCond .eq 25, 3) := by decide +kernel
theorem dX9_mean_9 : decode cX9_mean 9 = .ok (.aload_n 0, 1) := by decide +kernel
theorem dX9_mean_10 : decode cX9_mean 10 = .ok (.getfield 9, 3) := by decide +kernel
theorem dX9_mean_13 : decode cX9_mean 13 = .ok (.invokestatic 167, 3) := by decide +kernel
theorem dX9_mean_16 : decode cX9_mean 16 = .ok (.i2l, 1) := by decide +kernel
theorem dX9_mean_17 : decode cX9_mean 17 = .ok (.aload_n 0, 1) := by decide +kernel
theorem dX9_mean_18 : decode cX9_mean 18 = .ok (.getfield 9, 3) := by decide +kernel
theorem dX9_mean_21 : decode cX9_mean 21 = .ok (.iconst 0, 1) := by decide +kernel
theorem dX9_mean_22 : decode cX9_mean 22 = .ok (.iaload, 1) := by decide +kernel
theorem dX9_mean_23 : decode cX9_mean 23 = .ok (.i2l, 1) := by decide +kernel
theorem dX9_mean_24 : decode cX9_mean 24 = .ok (.iload_n 1, 1) := by decide +kernel
theorem dX9_mean_25 : decode cX9_mean 25 = .ok (.invokestatic 188, 3) := by decide +kernel
theorem dX9_mean_28 : decode cX9_mean 28 = .ok (.goto 9, 3) := by decide +kernel
theorem dX9_mean_31 : decode cX9_mean 31 = .ok (.aload_n 0, 1) := by decide +kernel
theorem dX9_mean_32 : decode cX9_mean 32 = .ok (.bipush (-2), 2) := by decide +kernel
theorem dX9_mean_34 : decode cX9_mean 34 = .ok (.invokevirtual 184, 3) := by decide +kernel
theorem dX9_mean_37 : decode cX9_mean 37 = .ok (.lreturn, 1) := by decide +kernel
theorem dX9_whatIs_0 : decode cX9_whatIs 0 = .ok (.aload_n 0, 1) := by decide +kernel
theorem dX9_whatIs_1 : decode cX9_whatIs 1 = .ok (.iload_n 1, 1) := by decide +kernel
theorem dX9_whatIs_2 : decode cX9_whatIs 2 = .ok (.invokevirtual 113, 3) := by decide +kernel
theorem dX9_whatIs_5 : decode cX9_whatIs 5 = .ok (.ifCond .ne 9, 3) := by decide +kernel
theorem dX9_whatIs_8 : decode cX9_whatIs 8 = .ok (.aload_n 0, 1) := by decide +kernel
theorem dX9_whatIs_9 : decode cX9_whatIs 9 = .ok (.iconst (-1), 1) := by decide +kernel
theorem dX9_whatIs_10 : decode cX9_whatIs 10 = .ok (.invokevirtual 36, 3) := by decide +kernel
theorem dX9_whatIs_13 : decode cX9_whatIs 13 = .ok (.ireturn, 1) := by decide +kernel
theorem dX9_whatIs_14 : decode cX9_whatIs 14 = .ok (.iload_n 2, 1) := by decide +kernel
theorem dX9_whatIs_15 : decode cX9_whatIs 15 = .ok (.iconst 0, 1) := by decide +kernel
theorem dX9_whatIs_16 : decode cX9_whatIs 16 = .ok (.iconst 1, 1) := by decide +kernel
theorem dX9_whatIs_17 : decode cX9_whatIs 17 = .ok (.invokestatic 40, 3) := by decide +kernel
theorem dX9_whatIs_20 : decode cX9_whatIs 20 = .ok (.ifCond .ne 10, 3) := by decide +kernel
theorem dX9_whatIs_23 : decode cX9_whatIs 23 = .ok (.aload_n 0, 1) := by decide +kernel
theorem dX9_whatIs_24 : decode cX9_whatIs 24 = .ok (.bipush (-2), 2) := by decide +kernel
theorem dX9_whatIs_26 : decode cX9_whatIs 26 = .ok (.invokevirtual 36, 3) := by decide +kernel
theorem dX9_whatIs_29 : decode cX9_whatIs 29 = .ok (.ireturn, 1) := by decide +kernel
theorem dX9_whatIs_30 : decode cX9_whatIs 30 = .ok (.iconst 0, 1) := by decide +kernel
theorem dX9_whatIs_31 : decode cX9_whatIs 31 = .ok (.istore_n 3, 1) := by decide +kernel
theorem dX9_whatIs_32 : decode cX9_whatIs 32 = .ok (.iconst 0, 1) := by decide +kernel
theorem dX9_whatIs_33 : decode cX9_whatIs 33 = .ok (.istore 4, 2) := by decide +kernel
theorem dX9_whatIs_35 : decode cX9_whatIs 35 = .ok (.iload 4, 2) := by decide +kernel
theorem dX9_whatIs_37 : decode cX9_whatIs 37 = .ok (.iload_n 2, 1) := by decide +kernel
theorem dX9_whatIs_38 : decode cX9_whatIs 38 = .ok (.ifCond .ne 8, 3) := by decide +kernel
theorem dX9_whatIs_41 : decode cX9_whatIs 41 = .ok (.bipush 6, 2) := by decide +kernel
theorem dX9_whatIs_43 : decode cX9_whatIs 43 = .ok (.goto 5, 3) := by decide +kernel
theorem dX9_whatIs_46 : decode cX9_whatIs 46 = .ok (.bipush 10, 2) := by decide +kernel
theorem dX9_whatIs_48 : decode cX9_whatIs 48 = .ok (.if_icmp .ge 107, 3) := by decide +kernel
theorem dX9_whatIs_51 : decode cX9_whatIs 51 = .ok (.iconst 1, 1) := by decide +kernel
theorem dX9_whatIs_52 : decode cX9_whatIs 52 = .ok (.istore 5, 2) := by decide +kernel
theorem dX9_whatIs_54 : decode cX9_whatIs 54 = .ok (.aload_n 0, 1) := by decide +kernel
theorem dX9_whatIs_55 : decode cX9_whatIs 55 = .ok (.getfield 9, 3) := by decide +kernel
theorem dX9_whatIs_58 : decode cX9_whatIs 58 = .ok (.aload_n 0, 1) := by decide +kernel
theorem dX9_whatIs_59 : decode cX9_whatIs 59 = .ok (.getfield 13, 3) := by decide +kernel
theorem dX9_whatIs_62 : decode cX9_whatIs 62 = .ok (.invokestatic 129, 3) := by decide +kernel
theorem dX9_whatIs_65 : decode cX9_whatIs 65 = .ok (.aload_n 0, 1) := by decide +kernel
theorem dX9_whatIs_66 : decode cX9_whatIs 66 = .ok (.getfield 13, 3) := by decide +kernel
theorem dX9_whatIs_69 : decode cX9_whatIs 69 = .ok (.iload_n 1, 1) := by decide +kernel
theorem dX9_whatIs_70 : decode cX9_whatIs 70 = .ok (.iload_n 2, 1) := by decide +kernel
theorem dX9_whatIs_71 : decode cX9_whatIs 71 = .ok (.invokestatic 44, 3) := by decide +kernel
theorem dX9_whatIs_74 : decode cX9_whatIs 74 = .ok (.iload 4, 2) := by decide +kernel
theorem dX9_whatIs_76 : decode cX9_whatIs 76 = .ok (.iastore, 1) := by decide +kernel
theorem dX9_whatIs_77 : decode cX9_whatIs 77 = .ok (.iconst 0, 1) := by decide +kernel
theorem dX9_whatIs_78 : decode cX9_whatIs 78 = .ok (.istore 6, 2) := by decide +kernel
theorem dX9_whatIs_80 : decode cX9_whatIs 80 = .ok (.iload 6, 2) := by decide +kernel
theorem dX9_whatIs_82 : decode cX9_whatIs 82 = .ok (.aload_n 0, 1) := by decide +kernel
theorem dX9_whatIs_83 : decode cX9_whatIs 83 = .ok (.getfield 192, 3) := by decide +kernel
theorem dX9_whatIs_86 : decode cX9_whatIs 86 = .ok (.if_icmp .ge 47, 3) := by decide +kernel
theorem dX9_whatIs_89 : decode cX9_whatIs 89 = .ok (.iload 5, 2) := by decide +kernel
theorem dX9_whatIs_91 : decode cX9_whatIs 91 = .ok (.aload_n 0, 1) := by decide +kernel
theorem dX9_whatIs_92 : decode cX9_whatIs 92 = .ok (.getfield 13, 3) := by decide +kernel
theorem dX9_whatIs_95 : decode cX9_whatIs 95 = .ok (.iload_n 1, 1) := by decide +kernel
theorem dX9_whatIs_96 : decode cX9_whatIs 96 = .ok (.iconst 3, 1) := by decide +kernel
theorem dX9_whatIs_97 : decode cX9_whatIs 97 = .ok (.invokestatic 44, 3) := by decide +kernel
theorem dX9_whatIs_100 : decode cX9_whatIs 100 = .ok (.iaload, 1) := by decide +kernel
theorem dX9_whatIs_101 : decode cX9_whatIs 101 = .ok (.aload_n 0, 1) := by decide +kernel
theorem dX9_whatIs_102 : decode cX9_whatIs 102 = .ok (.getfield 25, 3) := by decide +kernel
theorem dX9_whatIs_105 : decode cX9_whatIs 105 = .ok (.iload 6, 2) := by decide +kernel
theorem dX9_whatIs_107 : decode cX9_whatIs 107 = .ok (.iaload, 1) := by decide +kernel
theorem dX9_whatIs_108 : decode cX9_whatIs 108 = .ok (.if_icmp .ne 7, 3) := by decide +kernel
theorem dX9_whatIs_111 : decode cX9_whatIs 111 = .ok (.iconst 1, 1) := by decide +kernel
theorem dX9_whatIs_112 : decode cX9_whatIs 112 = .ok (.goto 4, 3) := by decide +kernel
theorem dX9_whatIs_115 : decode cX9_whatIs 115 = .ok (.iconst 0, 1) := by decide +kernel
theorem dX9_whatIs_116 : decode cX9_whatIs 116 = .ok (.iand, 1) := by decide +kernel
theorem dX9_whatIs_117 : decode cX9_whatIs 117 = .ok (.istore 5, 2) := by decide +kernel
theorem dX9_whatIs_119 : decode cX9_whatIs 119 = .ok (.aload_n 0, 1) := by decide +kernel
theorem dX9_whatIs_120 : decode cX9_whatIs 120 = .ok (.getfield 13, 3) := by decide +kernel
theorem dX9_whatIs_123 : decode cX9_whatIs 123 = .ok (.iconst 0, 1) := by decide +kernel
theorem dX9_whatIs_124 : decode cX9_whatIs 124 = .ok (.invokestatic 89, 3) := by decide +kernel
theorem dX9_whatIs_127 : decode cX9_whatIs 127 = .ok (.iinc 6 1, 3) := by decide +kernel
theorem dX9_whatIs_130 : decode cX9_whatIs 130 = .ok (.goto (-50), 3) := by decide +kernel
theorem dX9_whatIs_133 : decode cX9_whatIs 133 = .ok (.iload_n 3, 1) := by decide +kernel
theorem dX9_whatIs_134 : decode cX9_whatIs 134 = .ok (.iload 5, 2) := by decide +kernel
theorem dX9_whatIs_136 : decode cX9_whatIs 136 = .ok (.ifCond .eq 10, 3) := by decide +kernel
theorem dX9_whatIs_139 : decode cX9_whatIs 139 = .ok (.iconst 1, 1) := by decide +kernel
theorem dX9_whatIs_140 : decode cX9_whatIs 140 = .ok (.iload 4, 2) := by decide +kernel
theorem dX9_whatIs_142 : decode cX9_whatIs 142 = .ok (.ishl, 1) := by decide +kernel
theorem dX9_whatIs_143 : decode cX9_whatIs 143 = .ok (.goto 4, 3) := by decide +kernel
theorem dX9_whatIs_146 : decode cX9_whatIs 146 = .ok (.iconst 0, 1) := by decide +kernel
theorem dX9_whatIs_147 : decode cX9_whatIs 147 = .ok (.ior, 1) := by decide +kernel
theorem dX9_whatIs_148 : decode cX9_whatIs 148 = .ok (.istore_n 3, 1) := by decide +kernel
theorem dX9_whatIs_149 : decode cX9_whatIs 149 = .ok (.iinc 4 1, 3) := by decide +kernel
theorem dX9_whatIs_152 : decode cX9_whatIs 152 = .ok (.goto (-117), 3) := by decide +kernel
theorem dX9_whatIs_155 : decode cX9_whatIs 155 = .ok (.iload_n 3, 1) := by decide +kernel
theorem dX9_whatIs_156 : decode cX9_whatIs 156 = .ok (.ireturn, 1) := by decide +kernel
theorem dX9_row_0 : decode cX9_row 0 = .ok (.iload_n 1, 1) := by decide +kernel
theorem dX9_row_1 : decode cX9_row 1 = .ok (.iconst 0, 1) := by decide +kernel
theorem dX9_row_2 : decode cX9_row 2 = .ok (.bipush 99, 2) := by decide +kernel
theorem dX9_row_4 : decode cX9_row 4 = .ok (.invokestatic 136, 3) := by decide +kernel
theorem dX9_row_7 : decode cX9_row 7 = .ok (.istore_n 2, 1) := by decide +kernel
theorem dX9_row_8 : decode cX9_row 8 = .ok (.iload_n 2, 1) := by decide +kernel
theorem dX9_row_9 : decode cX9_row 9 = .ok (.ifCond .ne 15, 3) := by decide +kernel
theorem dX9_row_12 : decode cX9_row 12 = .ok (.aload_n 0, 1) := by decide +kernel
theorem dX9_row_13 : decode cX9_row 13 = .ok (.getfield 192, 3) := by decide +kernel
theorem dX9_row_16 : decode cX9_row 16 = .ok (.bipush 16, 2) := by decide +kernel
theorem dX9_row_18 : decode cX9_row 18 = .ok (.if_icmp .ne 6, 3) := by decide +kernel
theorem dX9_row_21 : decode cX9_row 21 = .ok (.bipush (-6), 2) := by decide +kernel
theorem dX9_row_23 : decode cX9_row 23 = .ok (.istore_n 2, 1) := by decide +kernel
theorem dX9_row_24 : decode cX9_row 24 = .ok (.iload_n 2, 1) := by decide +kernel
theorem dX9_row_25 : decode cX9_row 25 = .ok (.ifCond .eq 9, 3) := by decide +kernel
theorem dX9_row_28 : decode cX9_row 28 = .ok (.aload_n 0, 1) := by decide +kernel
theorem dX9_row_29 : decode cX9_row 29 = .ok (.iload_n 2, 1) := by decide +kernel
theorem dX9_row_30 : decode cX9_row 30 = .ok (.invokevirtual 36, 3) := by decide +kernel
theorem dX9_row_33 : decode cX9_row 33 = .ok (.ireturn, 1) := by decide +kernel
theorem dX9_row_34 : decode cX9_row 34 = .ok (.aload_n 0, 1) := by decide +kernel
theorem dX9_row_35 : decode cX9_row 35 = .ok (.getfield 25, 3) := by decide +kernel
theorem dX9_row_38 : decode cX9_row 38 = .ok (.aload_n 0, 1) := by decide +kernel
theorem dX9_row_39 : decode cX9_row 39 = .ok (.getfield 192, 3) := by decide +kernel
theorem dX9_row_42 : decode cX9_row 42 = .ok (.iload_n 1, 1) := by decide +kernel
theorem dX9_row_43 : decode cX9_row 43 = .ok (.iastore, 1) := by decide +kernel
theorem dX9_row_44 : decode cX9_row 44 = .ok (.aload_n 0, 1) := by decide +kernel
theorem dX9_row_45 : decode cX9_row 45 = .ok (.dup, 1) := by decide +kernel
theorem dX9_row_46 : decode cX9_row 46 = .ok (.getfield 192, 3) := by decide +kernel
theorem dX9_row_49 : decode cX9_row 49 = .ok (.iconst 1, 1) := by decide +kernel
theorem dX9_row_50 : decode cX9_row 50 = .ok (.iadd, 1) := by decide +kernel
theorem dX9_row_51 : decode cX9_row 51 = .ok (.putfield 192, 3) := by decide +kernel
theorem dX9_row_54 : decode cX9_row 54 = .ok (.aload_n 0, 1) := by decide +kernel
theorem dX9_row_55 : decode cX9_row 55 = .ok (.getfield 192, 3) := by decide +kernel
theorem dX9_row_58 : decode cX9_row 58 = .ok (.ireturn, 1) := by decide +kernel
theorem dX9_judge_0 : decode cX9_judge 0 = .ok (.aload_n 0, 1) := by decide +kernel
theorem dX9_judge_1 : decode cX9_judge 1 = .ok (.getfield 192, 3) := by decide +kernel
theorem dX9_judge_4 : decode cX9_judge 4 = .ok (.istore_n 1, 1) := by decide +kernel
theorem dX9_judge_5 : decode cX9_judge 5 = .ok (.aload_n 0, 1) := by decide +kernel
theorem dX9_judge_6 : decode cX9_judge 6 = .ok (.iconst 0, 1) := by decide +kernel
theorem dX9_judge_7 : decode cX9_judge 7 = .ok (.putfield 192, 3) := by decide +kernel
theorem dX9_judge_10 : decode cX9_judge 10 = .ok (.iconst 0, 1) := by decide +kernel
theorem dX9_judge_11 : decode cX9_judge 11 = .ok (.istore_n 2, 1) := by decide +kernel
theorem dX9_judge_12 : decode cX9_judge 12 = .ok (.iload_n 2, 1) := by decide +kernel
theorem dX9_judge_13 : decode cX9_judge 13 = .ok (.iload_n 1, 1) := by decide +kernel
theorem dX9_judge_14 : decode cX9_judge 14 = .ok (.if_icmp .ge 38, 3) := by decide +kernel
theorem dX9_judge_17 : decode cX9_judge 17 = .ok (.iload_n 2, 1) := by decide +kernel
theorem dX9_judge_18 : decode cX9_judge 18 = .ok (.invokestatic 117, 3) := by decide +kernel
theorem dX9_judge_21 : decode cX9_judge 21 = .ok (.ifCond .eq 23, 3) := by decide +kernel
theorem dX9_judge_24 : decode cX9_judge 24 = .ok (.aload_n 0, 1) := by decide +kernel
theorem dX9_judge_25 : decode cX9_judge 25 = .ok (.getfield 9, 3) := by decide +kernel
theorem dX9_judge_28 : decode cX9_judge 28 = .ok (.iload_n 2, 1) := by decide +kernel
theorem dX9_judge_29 : decode cX9_judge 29 = .ok (.invokestatic 144, 3) := by decide +kernel
theorem dX9_judge_32 : decode cX9_judge 32 = .ok (.invokestatic 52, 3) := by decide +kernel
theorem dX9_judge_35 : decode cX9_judge 35 = .ok (.aload_n 0, 1) := by decide +kernel
theorem dX9_judge_36 : decode cX9_judge 36 = .ok (.getfield 25, 3) := by decide +kernel
theorem dX9_judge_39 : decode cX9_judge 39 = .ok (.iload_n 2, 1) := by decide +kernel
theorem dX9_judge_40 : decode cX9_judge 40 = .ok (.iaload, 1) := by decide +kernel
theorem dX9_judge_41 : decode cX9_judge 41 = .ok (.if_icmp .eq 5, 3) := by decide +kernel
theorem dX9_judge_44 : decode cX9_judge 44 = .ok (.iload_n 2, 1) := by decide +kernel
theorem dX9_judge_45 : decode cX9_judge 45 = .ok (.ireturn, 1) := by decide +kernel
theorem dX9_judge_46 : decode cX9_judge 46 = .ok (.iinc 2 1, 3) := by decide +kernel
theorem dX9_judge_49 : decode cX9_judge 49 = .ok (.goto (-37), 3) := by decide +kernel
theorem dX9_judge_52 : decode cX9_judge 52 = .ok (.bipush (-9), 2) := by decide +kernel
theorem dX9_judge_54 : decode cX9_judge 54 = .ok (.ireturn, 1) := by decide +kernel
theorem dX9_clear_0 : decode cX9_clear 0 = .ok (.aload_n 0, 1) := by decide +kernel
theorem dX9_clear_1 : decode cX9_clear 1 = .ok (.getfield 192, 3) := by decide +kernel
theorem dX9_clear_4 : decode cX9_clear 4 = .ok (.istore_n 1, 1) := by decide +kernel
theorem dX9_clear_5 : decode cX9_clear 5 = .ok (.aload_n 0, 1) := by decide +kernel
theorem dX9_clear_6 : decode cX9_clear 6 = .ok (.iconst 0, 1) := by decide +kernel
theorem dX9_clear_7 : decode cX9_clear 7 = .ok (.putfield 192, 3) := by decide +kernel
theorem dX9_clear_10 : decode cX9_clear 10 = .ok (.iload_n 1, 1) := by decide +kernel
theorem dX9_clear_11 : decode cX9_clear 11 = .ok (.ireturn, 1) := by decide +kernel
theorem dX9_drawn_0 : decode cX9_drawn 0 = .ok (.aload_n 0, 1) := by decide +kernel
theorem dX9_drawn_1 : decode cX9_drawn 1 = .ok (.aload_n 0, 1) := by decide +kernel
theorem dX9_drawn_2 : decode cX9_drawn 2 = .ok (.getfield 195, 3) := by decide +kernel
theorem dX9_drawn_5 : decode cX9_drawn 5 = .ok (.ldc 198, 2) := by decide +kernel
theorem dX9_drawn_7 : decode cX9_drawn 7 = .ok (.imul, 1) := by decide +kernel
theorem dX9_drawn_8 : decode cX9_drawn 8 = .ok (.ldc 199, 2) := by decide +kernel
theorem dX9_drawn_10 : decode cX9_drawn 10 = .ok (.iadd, 1) := by decide +kernel
theorem dX9_drawn_11 : decode cX9_drawn 11 = .ok (.putfield 195, 3) := by decide +kernel
theorem dX9_drawn_14 : decode cX9_drawn 14 = .ok (.aload_n 0, 1) := by decide +kernel
theorem dX9_drawn_15 : decode cX9_drawn 15 = .ok (.getfield 195, 3) := by decide +kernel
theorem dX9_drawn_18 : decode cX9_drawn 18 = .ok (.ldc 200, 2) := by decide +kernel
theorem dX9_drawn_20 : decode cX9_drawn 20 = .ok (.iand, 1) := by decide +kernel
theorem dX9_drawn_21 : decode cX9_drawn 21 = .ok (.sipush 256, 3) := by decide +kernel
theorem dX9_drawn_24 : decode cX9_drawn 24 = .ok (.idiv, 1) := by decide +kernel
theorem dX9_drawn_25 : decode cX9_drawn 25 = .ok (.iload_n 1, 1) := by decide +kernel
theorem dX9_drawn_26 : decode cX9_drawn 26 = .ok (.irem, 1) := by decide +kernel
theorem dX9_drawn_27 : decode cX9_drawn 27 = .ok (.ireturn, 1) := by decide +kernel
theorem dX9_lots_0 : decode cX9_lots 0 = .ok (.iload_n 1, 1) := by decide +kernel
theorem dX9_lots_1 : decode cX9_lots 1 = .ok (.iconst 1, 1) := by decide +kernel
theorem dX9_lots_2 : decode cX9_lots 2 = .ok (.if_icmp .ge 10, 3) := by decide +kernel
theorem dX9_lots_5 : decode cX9_lots 5 = .ok (.aload_n 0, 1) := by decide +kernel
theorem dX9_lots_6 : decode cX9_lots 6 = .ok (.bipush (-4), 2) := by decide +kernel
theorem dX9_lots_8 : decode cX9_lots 8 = .ok (.invokevirtual 36, 3) := by decide +kernel
theorem dX9_lots_11 : decode cX9_lots 11 = .ok (.ireturn, 1) := by decide +kernel
theorem dX9_lots_12 : decode cX9_lots 12 = .ok (.iload_n 1, 1) := by decide +kernel
theorem dX9_lots_13 : decode cX9_lots 13 = .ok (.bipush 20, 2) := by decide +kernel
theorem dX9_lots_15 : decode cX9_lots 15 = .ok (.if_icmp .le 10, 3) := by decide +kernel
theorem dX9_lots_18 : decode cX9_lots 18 = .ok (.aload_n 0, 1) := by decide +kernel
theorem dX9_lots_19 : decode cX9_lots 19 = .ok (.bipush (-6), 2) := by decide +kernel
theorem dX9_lots_21 : decode cX9_lots 21 = .ok (.invokevirtual 36, 3) := by decide +kernel
theorem dX9_lots_24 : decode cX9_lots 24 = .ok (.ireturn, 1) := by decide +kernel
theorem dX9_lots_25 : decode cX9_lots 25 = .ok (.iload_n 3, 1) := by decide +kernel
theorem dX9_lots_26 : decode cX9_lots 26 = .ok (.iconst 0, 1) := by decide +kernel
theorem dX9_lots_27 : decode cX9_lots 27 = .ok (.iconst 1, 1) := by decide +kernel
theorem dX9_lots_28 : decode cX9_lots 28 = .ok (.invokestatic 40, 3) := by decide +kernel
theorem dX9_lots_31 : decode cX9_lots 31 = .ok (.ifCond .ne 10, 3) := by decide +kernel
theorem dX9_lots_34 : decode cX9_lots 34 = .ok (.aload_n 0, 1) := by decide +kernel
theorem dX9_lots_35 : decode cX9_lots 35 = .ok (.bipush (-2), 2) := by decide +kernel
theorem dX9_lots_37 : decode cX9_lots 37 = .ok (.invokevirtual 36, 3) := by decide +kernel
theorem dX9_lots_40 : decode cX9_lots 40 = .ok (.ireturn, 1) := by decide +kernel
theorem dX9_lots_41 : decode cX9_lots 41 = .ok (.aload_n 0, 1) := by decide +kernel
theorem dX9_lots_42 : decode cX9_lots 42 = .ok (.iload_n 2, 1) := by decide +kernel
theorem dX9_lots_43 : decode cX9_lots 43 = .ok (.putfield 195, 3) := by decide +kernel
theorem dX9_lots_46 : decode cX9_lots 46 = .ok (.iconst 0, 1) := by decide +kernel
theorem dX9_lots_47 : decode cX9_lots 47 = .ok (.istore 4, 2) := by decide +kernel
theorem dX9_lots_49 : decode cX9_lots 49 = .ok (.iconst 0, 1) := by decide +kernel
theorem dX9_lots_50 : decode cX9_lots 50 = .ok (.istore 5, 2) := by decide +kernel
theorem dX9_lots_52 : decode cX9_lots 52 = .ok (.iload 5, 2) := by decide +kernel
theorem dX9_lots_54 : decode cX9_lots 54 = .ok (.iload_n 1, 1) := by decide +kernel
theorem dX9_lots_55 : decode cX9_lots 55 = .ok (.if_icmp .ge 111, 3) := by decide +kernel
theorem dX9_lots_58 : decode cX9_lots 58 = .ok (.aload_n 0, 1) := by decide +kernel
theorem dX9_lots_59 : decode cX9_lots 59 = .ok (.getfield 9, 3) := by decide +kernel
theorem dX9_lots_62 : decode cX9_lots 62 = .ok (.aload_n 0, 1) := by decide +kernel
theorem dX9_lots_63 : decode cX9_lots 63 = .ok (.getfield 13, 3) := by decide +kernel
theorem dX9_lots_66 : decode cX9_lots 66 = .ok (.invokestatic 129, 3) := by decide +kernel
theorem dX9_lots_69 : decode cX9_lots 69 = .ok (.iconst 0, 1) := by decide +kernel
theorem dX9_lots_70 : decode cX9_lots 70 = .ok (.istore 6, 2) := by decide +kernel
theorem dX9_lots_72 : decode cX9_lots 72 = .ok (.iload 6, 2) := by decide +kernel
theorem dX9_lots_74 : decode cX9_lots 74 = .ok (.aload_n 0, 1) := by decide +kernel
theorem dX9_lots_75 : decode cX9_lots 75 = .ok (.getfield 9, 3) := by decide +kernel
theorem dX9_lots_78 : decode cX9_lots 78 = .ok (.iconst 0, 1) := by decide +kernel
theorem dX9_lots_79 : decode cX9_lots 79 = .ok (.iaload, 1) := by decide +kernel
theorem dX9_lots_80 : decode cX9_lots 80 = .ok (.if_icmp .ge 39, 3) := by decide +kernel
theorem dX9_lots_83 : decode cX9_lots 83 = .ok (.aload_n 0, 1) := by decide +kernel
theorem dX9_lots_84 : decode cX9_lots 84 = .ok (.getfield 13, 3) := by decide +kernel
theorem dX9_lots_87 : decode cX9_lots 87 = .ok (.iload 6, 2) := by decide +kernel
theorem dX9_lots_89 : decode cX9_lots 89 = .ok (.iconst 2, 1) := by decide +kernel
theorem dX9_lots_90 : decode cX9_lots 90 = .ok (.invokestatic 44, 3) := by decide +kernel
theorem dX9_lots_93 : decode cX9_lots 93 = .ok (.aload_n 0, 1) := by decide +kernel
theorem dX9_lots_94 : decode cX9_lots 94 = .ok (.sipush 128, 3) := by decide +kernel
theorem dX9_lots_97 : decode cX9_lots 97 = .ok (.invokevirtual 201, 3) := by decide +kernel
theorem dX9_lots_100 : decode cX9_lots 100 = .ok (.iastore, 1) := by decide +kernel
theorem dX9_lots_101 : decode cX9_lots 101 = .ok (.aload_n 0, 1) := by decide +kernel
theorem dX9_lots_102 : decode cX9_lots 102 = .ok (.getfield 13, 3) := by decide +kernel
theorem dX9_lots_105 : decode cX9_lots 105 = .ok (.iload 6, 2) := by decide +kernel
theorem dX9_lots_107 : decode cX9_lots 107 = .ok (.iconst 3, 1) := by decide +kernel
theorem dX9_lots_108 : decode cX9_lots 108 = .ok (.invokestatic 44, 3) := by decide +kernel
theorem dX9_lots_111 : decode cX9_lots 111 = .ok (.iconst 0, 1) := by decide +kernel
theorem dX9_lots_112 : decode cX9_lots 112 = .ok (.iastore, 1) := by decide +kernel
theorem dX9_lots_113 : decode cX9_lots 113 = .ok (.iinc 6 1, 3) := by decide +kernel
theorem dX9_lots_116 : decode cX9_lots 116 = .ok (.goto (-44), 3) := by decide +kernel
theorem dX9_lots_119 : decode cX9_lots 119 = .ok (.aload_n 0, 1) := by decide +kernel
theorem dX9_lots_120 : decode cX9_lots 120 = .ok (.getfield 13, 3) := by decide +kernel
theorem dX9_lots_123 : decode cX9_lots 123 = .ok (.bipush 14, 2) := by decide +kernel
theorem dX9_lots_125 : decode cX9_lots 125 = .ok (.invokestatic 123, 3) := by decide +kernel
theorem dX9_lots_128 : decode cX9_lots 128 = .ok (.iload 4, 2) := by decide +kernel
theorem dX9_lots_130 : decode cX9_lots 130 = .ok (.iload_n 3, 1) := by decide +kernel
theorem dX9_lots_131 : decode cX9_lots 131 = .ok (.ifCond .ne 13, 3) := by decide +kernel
theorem dX9_lots_134 : decode cX9_lots 134 = .ok (.aload_n 0, 1) := by decide +kernel
theorem dX9_lots_135 : decode cX9_lots 135 = .ok (.getfield 13, 3) := by decide +kernel
theorem dX9_lots_138 : decode cX9_lots 138 = .ok (.invokestatic 167, 3) := by decide +kernel
theorem dX9_lots_141 : decode cX9_lots 141 = .ok (.goto 16, 3) := by decide +kernel
theorem dX9_lots_144 : decode cX9_lots 144 = .ok (.aload_n 0, 1) := by decide +kernel
theorem dX9_lots_145 : decode cX9_lots 145 = .ok (.getfield 13, 3) := by decide +kernel
theorem dX9_lots_148 : decode cX9_lots 148 = .ok (.iconst 2, 1) := by decide +kernel
theorem dX9_lots_149 : decode cX9_lots 149 = .ok (.iaload, 1) := by decide +kernel
theorem dX9_lots_150 : decode cX9_lots 150 = .ok (.aload_n 0, 1) := by decide +kernel
theorem dX9_lots_151 : decode cX9_lots 151 = .ok (.getfield 9, 3) := by decide +kernel
theorem dX9_lots_154 : decode cX9_lots 154 = .ok (.iconst 2, 1) := by decide +kernel
theorem dX9_lots_155 : decode cX9_lots 155 = .ok (.iaload, 1) := by decide +kernel
theorem dX9_lots_156 : decode cX9_lots 156 = .ok (.isub, 1) := by decide +kernel
theorem dX9_lots_157 : decode cX9_lots 157 = .ok (.iadd, 1) := by decide +kernel
theorem dX9_lots_158 : decode cX9_lots 158 = .ok (.istore 4, 2) := by decide +kernel
theorem dX9_lots_160 : decode cX9_lots 160 = .ok (.iinc 5 1, 3) := by decide +kernel
theorem dX9_lots_163 : decode cX9_lots 163 = .ok (.goto (-111), 3) := by decide +kernel
theorem dX9_lots_166 : decode cX9_lots 166 = .ok (.iload 4, 2) := by decide +kernel
theorem dX9_lots_168 : decode cX9_lots 168 = .ok (.ireturn, 1) := by decide +kernel
theorem dX9_image_0 : decode cX9_image 0 = .ok (.aload_n 0, 1) := by decide +kernel
theorem dX9_image_1 : decode cX9_image 1 = .ok (.getfield 9, 3) := by decide +kernel
theorem dX9_image_4 : decode cX9_image 4 = .ok (.aload_n 0, 1) := by decide +kernel
theorem dX9_image_5 : decode cX9_image 5 = .ok (.getfield 16, 3) := by decide +kernel
theorem dX9_image_8 : decode cX9_image 8 = .ok (.invokestatic 129, 3) := by decide +kernel
theorem dX9_image_11 : decode cX9_image 11 = .ok (.aload_n 0, 1) := by decide +kernel
theorem dX9_image_12 : decode cX9_image 12 = .ok (.iconst 1, 1) := by decide +kernel
theorem dX9_image_13 : decode cX9_image 13 = .ok (.putfield 204, 3) := by decide +kernel
theorem dX9_image_16 : decode cX9_image 16 = .ok (.aload_n 0, 1) := by decide +kernel
theorem dX9_image_17 : decode cX9_image 17 = .ok (.getfield 9, 3) := by decide +kernel
theorem dX9_image_20 : decode cX9_image 20 = .ok (.iconst 1, 1) := by decide +kernel
theorem dX9_image_21 : decode cX9_image 21 = .ok (.iaload, 1) := by decide +kernel
theorem dX9_image_22 : decode cX9_image 22 = .ok (.ireturn, 1) := by decide +kernel
theorem dX9_on_0 : decode cX9_on 0 = .ok (.aload_n 0, 1) := by decide +kernel
theorem dX9_on_1 : decode cX9_on 1 = .ok (.getfield 204, 3) := by decide +kernel
theorem dX9_on_4 : decode cX9_on 4 = .ok (.ifCond .ne 10, 3) := by decide +kernel
theorem dX9_on_7 : decode cX9_on 7 = .ok (.aload_n 0, 1) := by decide +kernel
theorem dX9_on_8 : decode cX9_on 8 = .ok (.bipush (-3), 2) := by decide +kernel
theorem dX9_on_10 : decode cX9_on 10 = .ok (.invokevirtual 36, 3) := by decide +kernel
theorem dX9_on_13 : decode cX9_on 13 = .ok (.ireturn, 1) := by decide +kernel
theorem dX9_on_14 : decode cX9_on 14 = .ok (.aload_n 0, 1) := by decide +kernel
theorem dX9_on_15 : decode cX9_on 15 = .ok (.getfield 16, 3) := by decide +kernel
theorem dX9_on_18 : decode cX9_on 18 = .ok (.aload_n 0, 1) := by decide +kernel
theorem dX9_on_19 : decode cX9_on 19 = .ok (.getfield 9, 3) := by decide +kernel
theorem dX9_on_22 : decode cX9_on 22 = .ok (.invokestatic 129, 3) := by decide +kernel
theorem dX9_on_25 : decode cX9_on 25 = .ok (.aload_n 0, 1) := by decide +kernel
theorem dX9_on_26 : decode cX9_on 26 = .ok (.getfield 9, 3) := by decide +kernel
theorem dX9_on_29 : decode cX9_on 29 = .ok (.iconst 1, 1) := by decide +kernel
theorem dX9_on_30 : decode cX9_on 30 = .ok (.iaload, 1) := by decide +kernel
theorem dX9_on_31 : decode cX9_on 31 = .ok (.ireturn, 1) := by decide +kernel
theorem dX9_count_0 : decode cX9_count 0 = .ok (.iload_n 1, 1) := by decide +kernel
theorem dX9_count_1 : decode cX9_count 1 = .ok (.bipush 11, 2) := by decide +kernel
theorem dX9_count_3 : decode cX9_count 3 = .ok (.bipush 16, 2) := by decide +kernel
theorem dX9_count_5 : decode cX9_count 5 = .ok (.invokestatic 40, 3) := by decide +kernel
theorem dX9_count_8 : decode cX9_count 8 = .ok (.ifCond .eq 13, 3) := by decide +kernel
theorem dX9_count_11 : decode cX9_count 11 = .ok (.aload_n 0, 1) := by decide +kernel
theorem dX9_count_12 : decode cX9_count 12 = .ok (.getfield 28, 3) := by decide +kernel
theorem dX9_count_15 : decode cX9_count 15 = .ok (.iload_n 1, 1) := by decide +kernel
theorem dX9_count_16 : decode cX9_count 16 = .ok (.bipush 10, 2) := by decide +kernel
theorem dX9_count_18 : decode cX9_count 18 = .ok (.isub, 1) := by decide +kernel
theorem dX9_count_19 : decode cX9_count 19 = .ok (.iaload, 1) := by decide +kernel
theorem dX9_count_20 : decode cX9_count 20 = .ok (.ireturn, 1) := by decide +kernel
theorem dX9_count_21 : decode cX9_count 21 = .ok (.iconst 0, 1) := by decide +kernel
theorem dX9_count_22 : decode cX9_count 22 = .ok (.istore_n 2, 1) := by decide +kernel
theorem dX9_count_23 : decode cX9_count 23 = .ok (.iload_n 1, 1) := by decide +kernel
theorem dX9_count_24 : decode cX9_count 24 = .ok (.tableswitch 126 0 7 #[48, 48, 48, 55, 91, 99, 116, 121], 48) := by decide +kernel
theorem dX9_count_72 : decode cX9_count 72 = .ok (.aload_n 0, 1) := by decide +kernel
theorem dX9_count_73 : decode cX9_count 73 = .ok (.getfield 9, 3) := by decide +kernel
theorem dX9_count_76 : decode cX9_count 76 = .ok (.iload_n 1, 1) := by decide +kernel
theorem dX9_count_77 : decode cX9_count 77 = .ok (.iaload, 1) := by decide +kernel
theorem dX9_count_78 : decode cX9_count 78 = .ok (.ireturn, 1) := by decide +kernel
theorem dX9_count_79 : decode cX9_count 79 = .ok (.iconst 0, 1) := by decide +kernel
theorem dX9_count_80 : decode cX9_count 80 = .ok (.istore_n 3, 1) := by decide +kernel
theorem dX9_count_81 : decode cX9_count 81 = .ok (.iload_n 3, 1) := by decide +kernel
theorem dX9_count_82 : decode cX9_count 82 = .ok (.aload_n 0, 1) := by decide +kernel
theorem dX9_count_83 : decode cX9_count 83 = .ok (.getfield 9, 3) := by decide +kernel
theorem dX9_count_86 : decode cX9_count 86 = .ok (.iconst 0, 1) := by decide +kernel
theorem dX9_count_87 : decode cX9_count 87 = .ok (.iaload, 1) := by decide +kernel
theorem dX9_count_88 : decode cX9_count 88 = .ok (.if_icmp .ge 25, 3) := by decide +kernel
theorem dX9_count_91 : decode cX9_count 91 = .ok (.iload_n 2, 1) := by decide +kernel
theorem dX9_count_92 : decode cX9_count 92 = .ok (.aload_n 0, 1) := by decide +kernel
theorem dX9_count_93 : decode cX9_count 93 = .ok (.getfield 9, 3) := by decide +kernel
theorem dX9_count_96 : decode cX9_count 96 = .ok (.iload_n 3, 1) := by decide +kernel
theorem dX9_count_97 : decode cX9_count 97 = .ok (.iconst 2, 1) := by decide +kernel
theorem dX9_count_98 : decode cX9_count 98 = .ok (.invokestatic 44, 3) := by decide +kernel
theorem dX9_count_101 : decode cX9_count 101 = .ok (.iaload, 1) := by decide +kernel
theorem dX9_count_102 : decode cX9_count 102 = .ok (.invokestatic 52, 3) := by decide +kernel
theorem dX9_count_105 : decode cX9_count 105 = .ok (.iadd, 1) := by decide +kernel
theorem dX9_count_106 : decode cX9_count 106 = .ok (.istore_n 2, 1) := by decide +kernel
theorem dX9_count_107 : decode cX9_count 107 = .ok (.iinc 3 1, 3) := by decide +kernel
theorem dX9_count_110 : decode cX9_count 110 = .ok (.goto (-29), 3) := by decide +kernel
theorem dX9_count_113 : decode cX9_count 113 = .ok (.iload_n 2, 1) := by decide +kernel
theorem dX9_count_114 : decode cX9_count 114 = .ok (.ireturn, 1) := by decide +kernel
theorem dX9_count_115 : decode cX9_count 115 = .ok (.aload_n 0, 1) := by decide +kernel
theorem dX9_count_116 : decode cX9_count 116 = .ok (.getfield 9, 3) := by decide +kernel
theorem dX9_count_119 : decode cX9_count 119 = .ok (.invokestatic 167, 3) := by decide +kernel
theorem dX9_count_122 : decode cX9_count 122 = .ok (.ireturn, 1) := by decide +kernel
theorem dX9_count_123 : decode cX9_count 123 = .ok (.aload_n 0, 1) := by decide +kernel
theorem dX9_count_124 : decode cX9_count 124 = .ok (.getfield 9, 3) := by decide +kernel
theorem dX9_count_127 : decode cX9_count 127 = .ok (.aload_n 0, 1) := by decide +kernel
theorem dX9_count_128 : decode cX9_count 128 = .ok (.getfield 9, 3) := by decide +kernel
theorem dX9_count_131 : decode cX9_count 131 = .ok (.iconst 1, 1) := by decide +kernel
theorem dX9_count_132 : decode cX9_count 132 = .ok (.iaload, 1) := by decide +kernel
theorem dX9_count_133 : decode cX9_count 133 = .ok (.bipush 7, 2) := by decide +kernel
theorem dX9_count_135 : decode cX9_count 135 = .ok (.irem, 1) := by decide +kernel
theorem dX9_count_136 : decode cX9_count 136 = .ok (.invokestatic 144, 3) := by decide +kernel
theorem dX9_count_139 : decode cX9_count 139 = .ok (.ireturn, 1) := by decide +kernel
theorem dX9_count_140 : decode cX9_count 140 = .ok (.aload_n 0, 1) := by decide +kernel
theorem dX9_count_141 : decode cX9_count 141 = .ok (.getfield 192, 3) := by decide +kernel
theorem dX9_count_144 : decode cX9_count 144 = .ok (.ireturn, 1) := by decide +kernel
theorem dX9_count_145 : decode cX9_count 145 = .ok (.aload_n 0, 1) := by decide +kernel
theorem dX9_count_146 : decode cX9_count 146 = .ok (.getfield 92, 3) := by decide +kernel
theorem dX9_count_149 : decode cX9_count 149 = .ok (.ireturn, 1) := by decide +kernel
theorem dX9_count_150 : decode cX9_count 150 = .ok (.bipush (-9), 2) := by decide +kernel
theorem dX9_count_152 : decode cX9_count 152 = .ok (.ireturn, 1) := by decide +kernel
theorem dJ11_isValidCodePoint_9a6ad_0 : decode cJ11_isValidCodePoint_9a6ad 0 = .ok (.iload_n 0, 1) := by decide +kernel
theorem dJ11_isValidCodePoint_9a6ad_1 : decode cJ11_isValidCodePoint_9a6ad 1 = .ok (.bipush 16, 2) := by decide +kernel
theorem dJ11_isValidCodePoint_9a6ad_3 : decode cJ11_isValidCodePoint_9a6ad 3 = .ok (.iushr, 1) := by decide +kernel
theorem dJ11_isValidCodePoint_9a6ad_4 : decode cJ11_isValidCodePoint_9a6ad 4 = .ok (.istore_n 1, 1) := by decide +kernel
theorem dJ11_isValidCodePoint_9a6ad_5 : decode cJ11_isValidCodePoint_9a6ad 5 = .ok (.iload_n 1, 1) := by decide +kernel
theorem dJ11_isValidCodePoint_9a6ad_6 : decode cJ11_isValidCodePoint_9a6ad 6 = .ok (.bipush 17, 2) := by decide +kernel
theorem dJ11_isValidCodePoint_9a6ad_8 : decode cJ11_isValidCodePoint_9a6ad 8 = .ok (.if_icmp .ge 7, 3) := by decide +kernel
theorem dJ11_isValidCodePoint_9a6ad_11 : decode cJ11_isValidCodePoint_9a6ad 11 = .ok (.iconst 1, 1) := by decide +kernel
theorem dJ11_isValidCodePoint_9a6ad_12 : decode cJ11_isValidCodePoint_9a6ad 12 = .ok (.goto 4, 3) := by decide +kernel
theorem dJ11_isValidCodePoint_9a6ad_15 : decode cJ11_isValidCodePoint_9a6ad 15 = .ok (.iconst 0, 1) := by decide +kernel
theorem dJ11_isValidCodePoint_9a6ad_16 : decode cJ11_isValidCodePoint_9a6ad 16 = .ok (.ireturn, 1) := by decide +kernel
theorem dJ11_highSurrogate_5068e_0 : decode cJ11_highSurrogate_5068e 0 = .ok (.iload_n 0, 1) := by decide +kernel
theorem dJ11_highSurrogate_5068e_1 : decode cJ11_highSurrogate_5068e 1 = .ok (.bipush 10, 2) := by decide +kernel
theorem dJ11_highSurrogate_5068e_3 : decode cJ11_highSurrogate_5068e 3 = .ok (.iushr, 1) := by decide +kernel
theorem dJ11_highSurrogate_5068e_4 : decode cJ11_highSurrogate_5068e 4 = .ok (.ldc 110, 2) := by decide +kernel
theorem dJ11_highSurrogate_5068e_6 : decode cJ11_highSurrogate_5068e 6 = .ok (.iadd, 1) := by decide +kernel
theorem dJ11_highSurrogate_5068e_7 : decode cJ11_highSurrogate_5068e 7 = .ok (.i2c, 1) := by decide +kernel
theorem dJ11_highSurrogate_5068e_8 : decode cJ11_highSurrogate_5068e 8 = .ok (.ireturn, 1) := by decide +kernel
theorem dJ11_lowSurrogate_5068e_0 : decode cJ11_lowSurrogate_5068e 0 = .ok (.iload_n 0, 1) := by decide +kernel
theorem dJ11_lowSurrogate_5068e_1 : decode cJ11_lowSurrogate_5068e 1 = .ok (.sipush 1023, 3) := by decide +kernel
theorem dJ11_lowSurrogate_5068e_4 : decode cJ11_lowSurrogate_5068e 4 = .ok (.iand, 1) := by decide +kernel
theorem dJ11_lowSurrogate_5068e_5 : decode cJ11_lowSurrogate_5068e 5 = .ok (.ldc 76, 2) := by decide +kernel
theorem dJ11_lowSurrogate_5068e_7 : decode cJ11_lowSurrogate_5068e 7 = .ok (.iadd, 1) := by decide +kernel
theorem dJ11_lowSurrogate_5068e_8 : decode cJ11_lowSurrogate_5068e 8 = .ok (.i2c, 1) := by decide +kernel
theorem dJ11_lowSurrogate_5068e_9 : decode cJ11_lowSurrogate_5068e 9 = .ok (.ireturn, 1) := by decide +kernel
theorem dJ6_numberOfLeadingZeros_0f7a4_0 : decode cJ6_numberOfLeadingZeros_0f7a4 0 = .ok (.iload_n 0, 1) := by decide +kernel
theorem dJ6_numberOfLeadingZeros_0f7a4_1 : decode cJ6_numberOfLeadingZeros_0f7a4 1 = .ok (.ifCond .gt 14, 3) := by decide +kernel
theorem dJ6_numberOfLeadingZeros_0f7a4_4 : decode cJ6_numberOfLeadingZeros_0f7a4 4 = .ok (.iload_n 0, 1) := by decide +kernel
theorem dJ6_numberOfLeadingZeros_0f7a4_5 : decode cJ6_numberOfLeadingZeros_0f7a4 5 = .ok (.ifCond .ne 8, 3) := by decide +kernel
theorem dJ6_numberOfLeadingZeros_0f7a4_8 : decode cJ6_numberOfLeadingZeros_0f7a4 8 = .ok (.bipush 32, 2) := by decide +kernel
theorem dJ6_numberOfLeadingZeros_0f7a4_10 : decode cJ6_numberOfLeadingZeros_0f7a4 10 = .ok (.goto 4, 3) := by decide +kernel
theorem dJ6_numberOfLeadingZeros_0f7a4_13 : decode cJ6_numberOfLeadingZeros_0f7a4 13 = .ok (.iconst 0, 1) := by decide +kernel
theorem dJ6_numberOfLeadingZeros_0f7a4_14 : decode cJ6_numberOfLeadingZeros_0f7a4 14 = .ok (.ireturn, 1) := by decide +kernel
theorem dJ6_numberOfLeadingZeros_0f7a4_15 : decode cJ6_numberOfLeadingZeros_0f7a4 15 = .ok (.bipush 31, 2) := by decide +kernel
theorem dJ6_numberOfLeadingZeros_0f7a4_17 : decode cJ6_numberOfLeadingZeros_0f7a4 17 = .ok (.istore_n 1, 1) := by decide +kernel
theorem dJ6_numberOfLeadingZeros_0f7a4_18 : decode cJ6_numberOfLeadingZeros_0f7a4 18 = .ok (.iload_n 0, 1) := by decide +kernel
theorem dJ6_numberOfLeadingZeros_0f7a4_19 : decode cJ6_numberOfLeadingZeros_0f7a4 19 = .ok (.ldc_w 264, 3) := by decide +kernel
theorem dJ6_numberOfLeadingZeros_0f7a4_22 : decode cJ6_numberOfLeadingZeros_0f7a4 22 = .ok (.if_icmp .lt 11, 3) := by decide +kernel
theorem dJ6_numberOfLeadingZeros_0f7a4_25 : decode cJ6_numberOfLeadingZeros_0f7a4 25 = .ok (.iinc 1 (-16), 3) := by decide +kernel
theorem dJ6_numberOfLeadingZeros_0f7a4_28 : decode cJ6_numberOfLeadingZeros_0f7a4 28 = .ok (.iload_n 0, 1) := by decide +kernel
theorem dJ6_numberOfLeadingZeros_0f7a4_29 : decode cJ6_numberOfLeadingZeros_0f7a4 29 = .ok (.bipush 16, 2) := by decide +kernel
theorem dJ6_numberOfLeadingZeros_0f7a4_31 : decode cJ6_numberOfLeadingZeros_0f7a4 31 = .ok (.iushr, 1) := by decide +kernel
theorem dJ6_numberOfLeadingZeros_0f7a4_32 : decode cJ6_numberOfLeadingZeros_0f7a4 32 = .ok (.istore_n 0, 1) := by decide +kernel
theorem dJ6_numberOfLeadingZeros_0f7a4_33 : decode cJ6_numberOfLeadingZeros_0f7a4 33 = .ok (.iload_n 0, 1) := by decide +kernel
theorem dJ6_numberOfLeadingZeros_0f7a4_34 : decode cJ6_numberOfLeadingZeros_0f7a4 34 = .ok (.sipush 256, 3) := by decide +kernel
theorem dJ6_numberOfLeadingZeros_0f7a4_37 : decode cJ6_numberOfLeadingZeros_0f7a4 37 = .ok (.if_icmp .lt 11, 3) := by decide +kernel
theorem dJ6_numberOfLeadingZeros_0f7a4_40 : decode cJ6_numberOfLeadingZeros_0f7a4 40 = .ok (.iinc 1 (-8), 3) := by decide +kernel
theorem dJ6_numberOfLeadingZeros_0f7a4_43 : decode cJ6_numberOfLeadingZeros_0f7a4 43 = .ok (.iload_n 0, 1) := by decide +kernel
theorem dJ6_numberOfLeadingZeros_0f7a4_44 : decode cJ6_numberOfLeadingZeros_0f7a4 44 = .ok (.bipush 8, 2) := by decide +kernel
theorem dJ6_numberOfLeadingZeros_0f7a4_46 : decode cJ6_numberOfLeadingZeros_0f7a4 46 = .ok (.iushr, 1) := by decide +kernel
theorem dJ6_numberOfLeadingZeros_0f7a4_47 : decode cJ6_numberOfLeadingZeros_0f7a4 47 = .ok (.istore_n 0, 1) := by decide +kernel
theorem dJ6_numberOfLeadingZeros_0f7a4_48 : decode cJ6_numberOfLeadingZeros_0f7a4 48 = .ok (.iload_n 0, 1) := by decide +kernel
theorem dJ6_numberOfLeadingZeros_0f7a4_49 : decode cJ6_numberOfLeadingZeros_0f7a4 49 = .ok (.bipush 16, 2) := by decide +kernel
theorem dJ6_numberOfLeadingZeros_0f7a4_51 : decode cJ6_numberOfLeadingZeros_0f7a4 51 = .ok (.if_icmp .lt 10, 3) := by decide +kernel
theorem dJ6_numberOfLeadingZeros_0f7a4_54 : decode cJ6_numberOfLeadingZeros_0f7a4 54 = .ok (.iinc 1 (-4), 3) := by decide +kernel
theorem dJ6_numberOfLeadingZeros_0f7a4_57 : decode cJ6_numberOfLeadingZeros_0f7a4 57 = .ok (.iload_n 0, 1) := by decide +kernel
theorem dJ6_numberOfLeadingZeros_0f7a4_58 : decode cJ6_numberOfLeadingZeros_0f7a4 58 = .ok (.iconst 4, 1) := by decide +kernel
theorem dJ6_numberOfLeadingZeros_0f7a4_59 : decode cJ6_numberOfLeadingZeros_0f7a4 59 = .ok (.iushr, 1) := by decide +kernel
theorem dJ6_numberOfLeadingZeros_0f7a4_60 : decode cJ6_numberOfLeadingZeros_0f7a4 60 = .ok (.istore_n 0, 1) := by decide +kernel
theorem dJ6_numberOfLeadingZeros_0f7a4_61 : decode cJ6_numberOfLeadingZeros_0f7a4 61 = .ok (.iload_n 0, 1) := by decide +kernel
theorem dJ6_numberOfLeadingZeros_0f7a4_62 : decode cJ6_numberOfLeadingZeros_0f7a4 62 = .ok (.iconst 4, 1) := by decide +kernel
theorem dJ6_numberOfLeadingZeros_0f7a4_63 : decode cJ6_numberOfLeadingZeros_0f7a4 63 = .ok (.if_icmp .lt 10, 3) := by decide +kernel
theorem dJ6_numberOfLeadingZeros_0f7a4_66 : decode cJ6_numberOfLeadingZeros_0f7a4 66 = .ok (.iinc 1 (-2), 3) := by decide +kernel
theorem dJ6_numberOfLeadingZeros_0f7a4_69 : decode cJ6_numberOfLeadingZeros_0f7a4 69 = .ok (.iload_n 0, 1) := by decide +kernel
theorem dJ6_numberOfLeadingZeros_0f7a4_70 : decode cJ6_numberOfLeadingZeros_0f7a4 70 = .ok (.iconst 2, 1) := by decide +kernel
theorem dJ6_numberOfLeadingZeros_0f7a4_71 : decode cJ6_numberOfLeadingZeros_0f7a4 71 = .ok (.iushr, 1) := by decide +kernel
theorem dJ6_numberOfLeadingZeros_0f7a4_72 : decode cJ6_numberOfLeadingZeros_0f7a4 72 = .ok (.istore_n 0, 1) := by decide +kernel
theorem dJ6_numberOfLeadingZeros_0f7a4_73 : decode cJ6_numberOfLeadingZeros_0f7a4 73 = .ok (.iload_n 1, 1) := by decide +kernel
theorem dJ6_numberOfLeadingZeros_0f7a4_74 : decode cJ6_numberOfLeadingZeros_0f7a4 74 = .ok (.iload_n 0, 1) := by decide +kernel
theorem dJ6_numberOfLeadingZeros_0f7a4_75 : decode cJ6_numberOfLeadingZeros_0f7a4 75 = .ok (.iconst 1, 1) := by decide +kernel
theorem dJ6_numberOfLeadingZeros_0f7a4_76 : decode cJ6_numberOfLeadingZeros_0f7a4 76 = .ok (.iushr, 1) := by decide +kernel
theorem dJ6_numberOfLeadingZeros_0f7a4_77 : decode cJ6_numberOfLeadingZeros_0f7a4 77 = .ok (.isub, 1) := by decide +kernel
theorem dJ6_numberOfLeadingZeros_0f7a4_78 : decode cJ6_numberOfLeadingZeros_0f7a4 78 = .ok (.ireturn, 1) := by decide +kernel
theorem dJ6_numberOfTrailingZeros_0f7a4_0 : decode cJ6_numberOfTrailingZeros_0f7a4 0 = .ok (.iload_n 0, 1) := by decide +kernel
theorem dJ6_numberOfTrailingZeros_0f7a4_1 : decode cJ6_numberOfTrailingZeros_0f7a4 1 = .ok (.iconst (-1), 1) := by decide +kernel
theorem dJ6_numberOfTrailingZeros_0f7a4_2 : decode cJ6_numberOfTrailingZeros_0f7a4 2 = .ok (.ixor, 1) := by decide +kernel
theorem dJ6_numberOfTrailingZeros_0f7a4_3 : decode cJ6_numberOfTrailingZeros_0f7a4 3 = .ok (.iload_n 0, 1) := by decide +kernel
theorem dJ6_numberOfTrailingZeros_0f7a4_4 : decode cJ6_numberOfTrailingZeros_0f7a4 4 = .ok (.iconst 1, 1) := by decide +kernel
theorem dJ6_numberOfTrailingZeros_0f7a4_5 : decode cJ6_numberOfTrailingZeros_0f7a4 5 = .ok (.isub, 1) := by decide +kernel
theorem dJ6_numberOfTrailingZeros_0f7a4_6 : decode cJ6_numberOfTrailingZeros_0f7a4 6 = .ok (.iand, 1) := by decide +kernel
theorem dJ6_numberOfTrailingZeros_0f7a4_7 : decode cJ6_numberOfTrailingZeros_0f7a4 7 = .ok (.istore_n 0, 1) := by decide +kernel
theorem dJ6_numberOfTrailingZeros_0f7a4_8 : decode cJ6_numberOfTrailingZeros_0f7a4 8 = .ok (.iload_n 0, 1) := by decide +kernel
theorem dJ6_numberOfTrailingZeros_0f7a4_9 : decode cJ6_numberOfTrailingZeros_0f7a4 9 = .ok (.ifCond .gt 8, 3) := by decide +kernel
theorem dJ6_numberOfTrailingZeros_0f7a4_12 : decode cJ6_numberOfTrailingZeros_0f7a4 12 = .ok (.iload_n 0, 1) := by decide +kernel
theorem dJ6_numberOfTrailingZeros_0f7a4_13 : decode cJ6_numberOfTrailingZeros_0f7a4 13 = .ok (.bipush 32, 2) := by decide +kernel
theorem dJ6_numberOfTrailingZeros_0f7a4_15 : decode cJ6_numberOfTrailingZeros_0f7a4 15 = .ok (.iand, 1) := by decide +kernel
theorem dJ6_numberOfTrailingZeros_0f7a4_16 : decode cJ6_numberOfTrailingZeros_0f7a4 16 = .ok (.ireturn, 1) := by decide +kernel
theorem dJ6_numberOfTrailingZeros_0f7a4_17 : decode cJ6_numberOfTrailingZeros_0f7a4 17 = .ok (.iconst 1, 1) := by decide +kernel
theorem dJ6_numberOfTrailingZeros_0f7a4_18 : decode cJ6_numberOfTrailingZeros_0f7a4 18 = .ok (.istore_n 1, 1) := by decide +kernel
theorem dJ6_numberOfTrailingZeros_0f7a4_19 : decode cJ6_numberOfTrailingZeros_0f7a4 19 = .ok (.iload_n 0, 1) := by decide +kernel
theorem dJ6_numberOfTrailingZeros_0f7a4_20 : decode cJ6_numberOfTrailingZeros_0f7a4 20 = .ok (.ldc_w 264, 3) := by decide +kernel
theorem dJ6_numberOfTrailingZeros_0f7a4_23 : decode cJ6_numberOfTrailingZeros_0f7a4 23 = .ok (.if_icmp .le 11, 3) := by decide +kernel
theorem dJ6_numberOfTrailingZeros_0f7a4_26 : decode cJ6_numberOfTrailingZeros_0f7a4 26 = .ok (.iinc 1 16, 3) := by decide +kernel
theorem dJ6_numberOfTrailingZeros_0f7a4_29 : decode cJ6_numberOfTrailingZeros_0f7a4 29 = .ok (.iload_n 0, 1) := by decide +kernel
theorem dJ6_numberOfTrailingZeros_0f7a4_30 : decode cJ6_numberOfTrailingZeros_0f7a4 30 = .ok (.bipush 16, 2) := by decide +kernel
theorem dJ6_numberOfTrailingZeros_0f7a4_32 : decode cJ6_numberOfTrailingZeros_0f7a4 32 = .ok (.iushr, 1) := by decide +kernel
theorem dJ6_numberOfTrailingZeros_0f7a4_33 : decode cJ6_numberOfTrailingZeros_0f7a4 33 = .ok (.istore_n 0, 1) := by decide +kernel
theorem dJ6_numberOfTrailingZeros_0f7a4_34 : decode cJ6_numberOfTrailingZeros_0f7a4 34 = .ok (.iload_n 0, 1) := by decide +kernel
theorem dJ6_numberOfTrailingZeros_0f7a4_35 : decode cJ6_numberOfTrailingZeros_0f7a4 35 = .ok (.sipush 256, 3) := by decide +kernel
theorem dJ6_numberOfTrailingZeros_0f7a4_38 : decode cJ6_numberOfTrailingZeros_0f7a4 38 = .ok (.if_icmp .le 11, 3) := by decide +kernel
theorem dJ6_numberOfTrailingZeros_0f7a4_41 : decode cJ6_numberOfTrailingZeros_0f7a4 41 = .ok (.iinc 1 8, 3) := by decide +kernel
theorem dJ6_numberOfTrailingZeros_0f7a4_44 : decode cJ6_numberOfTrailingZeros_0f7a4 44 = .ok (.iload_n 0, 1) := by decide +kernel
theorem dJ6_numberOfTrailingZeros_0f7a4_45 : decode cJ6_numberOfTrailingZeros_0f7a4 45 = .ok (.bipush 8, 2) := by decide +kernel
theorem dJ6_numberOfTrailingZeros_0f7a4_47 : decode cJ6_numberOfTrailingZeros_0f7a4 47 = .ok (.iushr, 1) := by decide +kernel
theorem dJ6_numberOfTrailingZeros_0f7a4_48 : decode cJ6_numberOfTrailingZeros_0f7a4 48 = .ok (.istore_n 0, 1) := by decide +kernel
theorem dJ6_numberOfTrailingZeros_0f7a4_49 : decode cJ6_numberOfTrailingZeros_0f7a4 49 = .ok (.iload_n 0, 1) := by decide +kernel
theorem dJ6_numberOfTrailingZeros_0f7a4_50 : decode cJ6_numberOfTrailingZeros_0f7a4 50 = .ok (.bipush 16, 2) := by decide +kernel
theorem dJ6_numberOfTrailingZeros_0f7a4_52 : decode cJ6_numberOfTrailingZeros_0f7a4 52 = .ok (.if_icmp .le 10, 3) := by decide +kernel
theorem dJ6_numberOfTrailingZeros_0f7a4_55 : decode cJ6_numberOfTrailingZeros_0f7a4 55 = .ok (.iinc 1 4, 3) := by decide +kernel
theorem dJ6_numberOfTrailingZeros_0f7a4_58 : decode cJ6_numberOfTrailingZeros_0f7a4 58 = .ok (.iload_n 0, 1) := by decide +kernel
theorem dJ6_numberOfTrailingZeros_0f7a4_59 : decode cJ6_numberOfTrailingZeros_0f7a4 59 = .ok (.iconst 4, 1) := by decide +kernel
theorem dJ6_numberOfTrailingZeros_0f7a4_60 : decode cJ6_numberOfTrailingZeros_0f7a4 60 = .ok (.iushr, 1) := by decide +kernel
theorem dJ6_numberOfTrailingZeros_0f7a4_61 : decode cJ6_numberOfTrailingZeros_0f7a4 61 = .ok (.istore_n 0, 1) := by decide +kernel
theorem dJ6_numberOfTrailingZeros_0f7a4_62 : decode cJ6_numberOfTrailingZeros_0f7a4 62 = .ok (.iload_n 0, 1) := by decide +kernel
theorem dJ6_numberOfTrailingZeros_0f7a4_63 : decode cJ6_numberOfTrailingZeros_0f7a4 63 = .ok (.iconst 4, 1) := by decide +kernel
theorem dJ6_numberOfTrailingZeros_0f7a4_64 : decode cJ6_numberOfTrailingZeros_0f7a4 64 = .ok (.if_icmp .le 10, 3) := by decide +kernel
theorem dJ6_numberOfTrailingZeros_0f7a4_67 : decode cJ6_numberOfTrailingZeros_0f7a4 67 = .ok (.iinc 1 2, 3) := by decide +kernel
theorem dJ6_numberOfTrailingZeros_0f7a4_70 : decode cJ6_numberOfTrailingZeros_0f7a4 70 = .ok (.iload_n 0, 1) := by decide +kernel
theorem dJ6_numberOfTrailingZeros_0f7a4_71 : decode cJ6_numberOfTrailingZeros_0f7a4 71 = .ok (.iconst 2, 1) := by decide +kernel
theorem dJ6_numberOfTrailingZeros_0f7a4_72 : decode cJ6_numberOfTrailingZeros_0f7a4 72 = .ok (.iushr, 1) := by decide +kernel
theorem dJ6_numberOfTrailingZeros_0f7a4_73 : decode cJ6_numberOfTrailingZeros_0f7a4 73 = .ok (.istore_n 0, 1) := by decide +kernel
theorem dJ6_numberOfTrailingZeros_0f7a4_74 : decode cJ6_numberOfTrailingZeros_0f7a4 74 = .ok (.iload_n 1, 1) := by decide +kernel
theorem dJ6_numberOfTrailingZeros_0f7a4_75 : decode cJ6_numberOfTrailingZeros_0f7a4 75 = .ok (.iload_n 0, 1) := by decide +kernel
theorem dJ6_numberOfTrailingZeros_0f7a4_76 : decode cJ6_numberOfTrailingZeros_0f7a4 76 = .ok (.iconst 1, 1) := by decide +kernel
theorem dJ6_numberOfTrailingZeros_0f7a4_77 : decode cJ6_numberOfTrailingZeros_0f7a4 77 = .ok (.iushr, 1) := by decide +kernel
theorem dJ6_numberOfTrailingZeros_0f7a4_78 : decode cJ6_numberOfTrailingZeros_0f7a4 78 = .ok (.iadd, 1) := by decide +kernel
theorem dJ6_numberOfTrailingZeros_0f7a4_79 : decode cJ6_numberOfTrailingZeros_0f7a4 79 = .ok (.ireturn, 1) := by decide +kernel
theorem dJ6_bitCount_0f7a4_0 : decode cJ6_bitCount_0f7a4 0 = .ok (.iload_n 0, 1) := by decide +kernel
theorem dJ6_bitCount_0f7a4_1 : decode cJ6_bitCount_0f7a4 1 = .ok (.iload_n 0, 1) := by decide +kernel
theorem dJ6_bitCount_0f7a4_2 : decode cJ6_bitCount_0f7a4 2 = .ok (.iconst 1, 1) := by decide +kernel
theorem dJ6_bitCount_0f7a4_3 : decode cJ6_bitCount_0f7a4 3 = .ok (.iushr, 1) := by decide +kernel
theorem dJ6_bitCount_0f7a4_4 : decode cJ6_bitCount_0f7a4 4 = .ok (.ldc_w 265, 3) := by decide +kernel
theorem dJ6_bitCount_0f7a4_7 : decode cJ6_bitCount_0f7a4 7 = .ok (.iand, 1) := by decide +kernel
theorem dJ6_bitCount_0f7a4_8 : decode cJ6_bitCount_0f7a4 8 = .ok (.isub, 1) := by decide +kernel
theorem dJ6_bitCount_0f7a4_9 : decode cJ6_bitCount_0f7a4 9 = .ok (.istore_n 0, 1) := by decide +kernel
theorem dJ6_bitCount_0f7a4_10 : decode cJ6_bitCount_0f7a4 10 = .ok (.iload_n 0, 1) := by decide +kernel
theorem dJ6_bitCount_0f7a4_11 : decode cJ6_bitCount_0f7a4 11 = .ok (.ldc_w 266, 3) := by decide +kernel
theorem dJ6_bitCount_0f7a4_14 : decode cJ6_bitCount_0f7a4 14 = .ok (.iand, 1) := by decide +kernel
theorem dJ6_bitCount_0f7a4_15 : decode cJ6_bitCount_0f7a4 15 = .ok (.iload_n 0, 1) := by decide +kernel
theorem dJ6_bitCount_0f7a4_16 : decode cJ6_bitCount_0f7a4 16 = .ok (.iconst 2, 1) := by decide +kernel
theorem dJ6_bitCount_0f7a4_17 : decode cJ6_bitCount_0f7a4 17 = .ok (.iushr, 1) := by decide +kernel
theorem dJ6_bitCount_0f7a4_18 : decode cJ6_bitCount_0f7a4 18 = .ok (.ldc_w 266, 3) := by decide +kernel
theorem dJ6_bitCount_0f7a4_21 : decode cJ6_bitCount_0f7a4 21 = .ok (.iand, 1) := by decide +kernel
theorem dJ6_bitCount_0f7a4_22 : decode cJ6_bitCount_0f7a4 22 = .ok (.iadd, 1) := by decide +kernel
theorem dJ6_bitCount_0f7a4_23 : decode cJ6_bitCount_0f7a4 23 = .ok (.istore_n 0, 1) := by decide +kernel
theorem dJ6_bitCount_0f7a4_24 : decode cJ6_bitCount_0f7a4 24 = .ok (.iload_n 0, 1) := by decide +kernel
theorem dJ6_bitCount_0f7a4_25 : decode cJ6_bitCount_0f7a4 25 = .ok (.iload_n 0, 1) := by decide +kernel
theorem dJ6_bitCount_0f7a4_26 : decode cJ6_bitCount_0f7a4 26 = .ok (.iconst 4, 1) := by decide +kernel
theorem dJ6_bitCount_0f7a4_27 : decode cJ6_bitCount_0f7a4 27 = .ok (.iushr, 1) := by decide +kernel
theorem dJ6_bitCount_0f7a4_28 : decode cJ6_bitCount_0f7a4 28 = .ok (.iadd, 1) := by decide +kernel
theorem dJ6_bitCount_0f7a4_29 : decode cJ6_bitCount_0f7a4 29 = .ok (.ldc_w 267, 3) := by decide +kernel
theorem dJ6_bitCount_0f7a4_32 : decode cJ6_bitCount_0f7a4 32 = .ok (.iand, 1) := by decide +kernel
theorem dJ6_bitCount_0f7a4_33 : decode cJ6_bitCount_0f7a4 33 = .ok (.istore_n 0, 1) := by decide +kernel
theorem dJ6_bitCount_0f7a4_34 : decode cJ6_bitCount_0f7a4 34 = .ok (.iload_n 0, 1) := by decide +kernel
theorem dJ6_bitCount_0f7a4_35 : decode cJ6_bitCount_0f7a4 35 = .ok (.iload_n 0, 1) := by decide +kernel
theorem dJ6_bitCount_0f7a4_36 : decode cJ6_bitCount_0f7a4 36 = .ok (.bipush 8, 2) := by decide +kernel
theorem dJ6_bitCount_0f7a4_38 : decode cJ6_bitCount_0f7a4 38 = .ok (.iushr, 1) := by decide +kernel
theorem dJ6_bitCount_0f7a4_39 : decode cJ6_bitCount_0f7a4 39 = .ok (.iadd, 1) := by decide +kernel
theorem dJ6_bitCount_0f7a4_40 : decode cJ6_bitCount_0f7a4 40 = .ok (.istore_n 0, 1) := by decide +kernel
theorem dJ6_bitCount_0f7a4_41 : decode cJ6_bitCount_0f7a4 41 = .ok (.iload_n 0, 1) := by decide +kernel
theorem dJ6_bitCount_0f7a4_42 : decode cJ6_bitCount_0f7a4 42 = .ok (.iload_n 0, 1) := by decide +kernel
theorem dJ6_bitCount_0f7a4_43 : decode cJ6_bitCount_0f7a4 43 = .ok (.bipush 16, 2) := by decide +kernel
theorem dJ6_bitCount_0f7a4_45 : decode cJ6_bitCount_0f7a4 45 = .ok (.iushr, 1) := by decide +kernel
theorem dJ6_bitCount_0f7a4_46 : decode cJ6_bitCount_0f7a4 46 = .ok (.iadd, 1) := by decide +kernel
theorem dJ6_bitCount_0f7a4_47 : decode cJ6_bitCount_0f7a4 47 = .ok (.istore_n 0, 1) := by decide +kernel
theorem dJ6_bitCount_0f7a4_48 : decode cJ6_bitCount_0f7a4 48 = .ok (.iload_n 0, 1) := by decide +kernel
theorem dJ6_bitCount_0f7a4_49 : decode cJ6_bitCount_0f7a4 49 = .ok (.bipush 63, 2) := by decide +kernel
theorem dJ6_bitCount_0f7a4_51 : decode cJ6_bitCount_0f7a4 51 = .ok (.iand, 1) := by decide +kernel
theorem dJ6_bitCount_0f7a4_52 : decode cJ6_bitCount_0f7a4 52 = .ok (.ireturn, 1) := by decide +kernel
theorem dJ9_max_7cf53_0 : decode cJ9_max_7cf53 0 = .ok (.iload_n 0, 1) := by decide +kernel
theorem dJ9_max_7cf53_1 : decode cJ9_max_7cf53 1 = .ok (.iload_n 1, 1) := by decide +kernel
theorem dJ9_max_7cf53_2 : decode cJ9_max_7cf53 2 = .ok (.if_icmp .lt 7, 3) := by decide +kernel
theorem dJ9_max_7cf53_5 : decode cJ9_max_7cf53 5 = .ok (.iload_n 0, 1) := by decide +kernel
theorem dJ9_max_7cf53_6 : decode cJ9_max_7cf53 6 = .ok (.goto 4, 3) := by decide +kernel
theorem dJ9_max_7cf53_9 : decode cJ9_max_7cf53 9 = .ok (.iload_n 1, 1) := by decide +kernel
theorem dJ9_max_7cf53_10 : decode cJ9_max_7cf53 10 = .ok (.ireturn, 1) := by decide +kernel
theorem dJ9_min_7cf53_0 : decode cJ9_min_7cf53 0 = .ok (.iload_n 0, 1) := by decide +kernel
theorem dJ9_min_7cf53_1 : decode cJ9_min_7cf53 1 = .ok (.iload_n 1, 1) := by decide +kernel
theorem dJ9_min_7cf53_2 : decode cJ9_min_7cf53 2 = .ok (.if_icmp .gt 7, 3) := by decide +kernel
theorem dJ9_min_7cf53_5 : decode cJ9_min_7cf53 5 = .ok (.iload_n 0, 1) := by decide +kernel
theorem dJ9_min_7cf53_6 : decode cJ9_min_7cf53 6 = .ok (.goto 4, 3) := by decide +kernel
theorem dJ9_min_7cf53_9 : decode cJ9_min_7cf53 9 = .ok (.iload_n 1, 1) := by decide +kernel
theorem dJ9_min_7cf53_10 : decode cJ9_min_7cf53 10 = .ok (.ireturn, 1) := by decide +kernel
theorem dJ0_length_8abf5_0 : decode cJ0_length_8abf5 0 = .ok (.aload_n 0, 1) := by decide +kernel
theorem dJ0_length_8abf5_1 : decode cJ0_length_8abf5 1 = .ok (.getfield 9, 3) := by decide +kernel
theorem dJ0_length_8abf5_4 : decode cJ0_length_8abf5 4 = .ok (.arraylength, 1) := by decide +kernel
theorem dJ0_length_8abf5_5 : decode cJ0_length_8abf5 5 = .ok (.aload_n 0, 1) := by decide +kernel
theorem dJ0_length_8abf5_6 : decode cJ0_length_8abf5 6 = .ok (.invokevirtual 335, 3) := by decide +kernel
theorem dJ0_length_8abf5_9 : decode cJ0_length_8abf5 9 = .ok (.ishr, 1) := by decide +kernel
theorem dJ0_length_8abf5_10 : decode cJ0_length_8abf5 10 = .ok (.ireturn, 1) := by decide +kernel
theorem dJ0_isEmpty_aae02_0 : decode cJ0_isEmpty_aae02 0 = .ok (.aload_n 0, 1) := by decide +kernel
theorem dJ0_isEmpty_aae02_1 : decode cJ0_isEmpty_aae02 1 = .ok (.getfield 9, 3) := by decide +kernel
theorem dJ0_isEmpty_aae02_4 : decode cJ0_isEmpty_aae02 4 = .ok (.arraylength, 1) := by decide +kernel
theorem dJ0_isEmpty_aae02_5 : decode cJ0_isEmpty_aae02 5 = .ok (.ifCond .ne 7, 3) := by decide +kernel
theorem dJ0_isEmpty_aae02_8 : decode cJ0_isEmpty_aae02 8 = .ok (.iconst 1, 1) := by decide +kernel
theorem dJ0_isEmpty_aae02_9 : decode cJ0_isEmpty_aae02 9 = .ok (.goto 4, 3) := by decide +kernel
theorem dJ0_isEmpty_aae02_12 : decode cJ0_isEmpty_aae02 12 = .ok (.iconst 0, 1) := by decide +kernel
theorem dJ0_isEmpty_aae02_13 : decode cJ0_isEmpty_aae02 13 = .ok (.ireturn, 1) := by decide +kernel
theorem dJ0_charAt_5068e_0 : decode cJ0_charAt_5068e 0 = .ok (.aload_n 0, 1) := by decide +kernel
theorem dJ0_charAt_5068e_1 : decode cJ0_charAt_5068e 1 = .ok (.invokevirtual 492, 3) := by decide +kernel
theorem dJ0_charAt_5068e_4 : decode cJ0_charAt_5068e 4 = .ok (.ifCond .eq 12, 3) := by decide +kernel
theorem dJ0_charAt_5068e_7 : decode cJ0_charAt_5068e 7 = .ok (.aload_n 0, 1) := by decide +kernel
theorem dJ0_charAt_5068e_8 : decode cJ0_charAt_5068e 8 = .ok (.getfield 9, 3) := by decide +kernel
theorem dJ0_charAt_5068e_11 : decode cJ0_charAt_5068e 11 = .ok (.iload_n 1, 1) := by decide +kernel
theorem dJ0_charAt_5068e_12 : decode cJ0_charAt_5068e 12 = .ok (.invokestatic 495, 3) := by decide +kernel
theorem dJ0_charAt_5068e_15 : decode cJ0_charAt_5068e 15 = .ok (.ireturn, 1) := by decide +kernel
theorem dJ0_charAt_5068e_16 : decode cJ0_charAt_5068e 16 = .ok (.aload_n 0, 1) := by decide +kernel
theorem dJ0_charAt_5068e_17 : decode cJ0_charAt_5068e 17 = .ok (.getfield 9, 3) := by decide +kernel
theorem dJ0_charAt_5068e_20 : decode cJ0_charAt_5068e 20 = .ok (.iload_n 1, 1) := by decide +kernel
theorem dJ0_charAt_5068e_21 : decode cJ0_charAt_5068e 21 = .ok (.invokestatic 498, 3) := by decide +kernel
theorem dJ0_charAt_5068e_24 : decode cJ0_charAt_5068e 24 = .ok (.ireturn, 1) := by decide +kernel
theorem dJ0_indexOf_0f7a4_0 : decode cJ0_indexOf_0f7a4 0 = .ok (.aload_n 0, 1) := by decide +kernel
theorem dJ0_indexOf_0f7a4_1 : decode cJ0_indexOf_0f7a4 1 = .ok (.iload_n 1, 1) := by decide +kernel
theorem dJ0_indexOf_0f7a4_2 : decode cJ0_indexOf_0f7a4 2 = .ok (.iconst 0, 1) := by decide +kernel
theorem dJ0_indexOf_0f7a4_3 : decode cJ0_indexOf_0f7a4 3 = .ok (.invokevirtual 633, 3) := by decide +kernel
theorem dJ0_indexOf_0f7a4_6 : decode cJ0_indexOf_0f7a4 6 = .ok (.ireturn, 1) := by decide +kernel
theorem dJ0_indexOf_7cf53_0 : decode cJ0_indexOf_7cf53 0 = .ok (.aload_n 0, 1) := by decide +kernel
theorem dJ0_indexOf_7cf53_1 : decode cJ0_indexOf_7cf53 1 = .ok (.invokevirtual 492, 3) := by decide +kernel
theorem dJ0_indexOf_7cf53_4 : decode cJ0_indexOf_7cf53 4 = .ok (.ifCond .eq 19, 3) := by decide +kernel
theorem dJ0_indexOf_7cf53_7 : decode cJ0_indexOf_7cf53 7 = .ok (.aload_n 0, 1) := by decide +kernel
theorem dJ0_indexOf_7cf53_8 : decode cJ0_indexOf_7cf53 8 = .ok (.getfield 9, 3) := by decide +kernel
theorem dJ0_indexOf_7cf53_11 : decode cJ0_indexOf_7cf53 11 = .ok (.iload_n 1, 1) := by decide +kernel
theorem dJ0_indexOf_7cf53_12 : decode cJ0_indexOf_7cf53 12 = .ok (.iload_n 2, 1) := by decide +kernel
theorem dJ0_indexOf_7cf53_13 : decode cJ0_indexOf_7cf53 13 = .ok (.aload_n 0, 1) := by decide +kernel
theorem dJ0_indexOf_7cf53_14 : decode cJ0_indexOf_7cf53 14 = .ok (.invokevirtual 505, 3) := by decide +kernel
theorem dJ0_indexOf_7cf53_17 : decode cJ0_indexOf_7cf53 17 = .ok (.invokestatic 637, 3) := by decide +kernel
theorem dJ0_indexOf_7cf53_20 : decode cJ0_indexOf_7cf53 20 = .ok (.goto 16, 3) := by decide +kernel
theorem dJ0_indexOf_7cf53_23 : decode cJ0_indexOf_7cf53 23 = .ok (.aload_n 0, 1) := by decide +kernel
theorem dJ0_indexOf_7cf53_24 : decode cJ0_indexOf_7cf53 24 = .ok (.getfield 9, 3) := by decide +kernel
theorem dJ0_indexOf_7cf53_27 : decode cJ0_indexOf_7cf53 27 = .ok (.iload_n 1, 1) := by decide +kernel
theorem dJ0_indexOf_7cf53_28 : decode cJ0_indexOf_7cf53 28 = .ok (.iload_n 2, 1) := by decide +kernel
theorem dJ0_indexOf_7cf53_29 : decode cJ0_indexOf_7cf53 29 = .ok (.aload_n 0, 1) := by decide +kernel
theorem dJ0_indexOf_7cf53_30 : decode cJ0_indexOf_7cf53 30 = .ok (.invokevirtual 505, 3) := by decide +kernel
theorem dJ0_indexOf_7cf53_33 : decode cJ0_indexOf_7cf53 33 = .ok (.invokestatic 640, 3) := by decide +kernel
theorem dJ0_indexOf_7cf53_36 : decode cJ0_indexOf_7cf53 36 = .ok (.ireturn, 1) := by decide +kernel
theorem dJ0_coder_7d493_0 : decode cJ0_coder_7d493 0 = .ok (.getstatic 38, 3) := by decide +kernel
theorem dJ0_coder_7d493_3 : decode cJ0_coder_7d493 3 = .ok (.ifCond .eq 10, 3) := by decide +kernel
theorem dJ0_coder_7d493_6 : decode cJ0_coder_7d493 6 = .ok (.aload_n 0, 1) := by decide +kernel
theorem dJ0_coder_7d493_7 : decode cJ0_coder_7d493 7 = .ok (.getfield 15, 3) := by decide +kernel
theorem dJ0_coder_7d493_10 : decode cJ0_coder_7d493 10 = .ok (.goto 4, 3) := by decide +kernel
theorem dJ0_coder_7d493_13 : decode cJ0_coder_7d493 13 = .ok (.iconst 1, 1) := by decide +kernel
theorem dJ0_coder_7d493_14 : decode cJ0_coder_7d493 14 = .ok (.ireturn, 1) := by decide +kernel
theorem dJ0_isLatin1_aae02_0 : decode cJ0_isLatin1_aae02 0 = .ok (.getstatic 38, 3) := by decide +kernel
theorem dJ0_isLatin1_aae02_3 : decode cJ0_isLatin1_aae02 3 = .ok (.ifCond .eq 14, 3) := by decide +kernel
theorem dJ0_isLatin1_aae02_6 : decode cJ0_isLatin1_aae02 6 = .ok (.aload_n 0, 1) := by decide +kernel
theorem dJ0_isLatin1_aae02_7 : decode cJ0_isLatin1_aae02 7 = .ok (.getfield 15, 3) := by decide +kernel
theorem dJ0_isLatin1_aae02_10 : decode cJ0_isLatin1_aae02 10 = .ok (.ifCond .ne 7, 3) := by decide +kernel
theorem dJ0_isLatin1_aae02_13 : decode cJ0_isLatin1_aae02 13 = .ok (.iconst 1, 1) := by decide +kernel
theorem dJ0_isLatin1_aae02_14 : decode cJ0_isLatin1_aae02 14 = .ok (.goto 4, 3) := by decide +kernel
theorem dJ0_isLatin1_aae02_17 : decode cJ0_isLatin1_aae02 17 = .ok (.iconst 0, 1) := by decide +kernel
theorem dJ0_isLatin1_aae02_18 : decode cJ0_isLatin1_aae02 18 = .ok (.ireturn, 1) := by decide +kernel
theorem dJ0_checkIndex_df160_0 : decode cJ0_checkIndex_df160 0 = .ok (.iload_n 0, 1) := by decide +kernel
theorem dJ0_checkIndex_df160_1 : decode cJ0_checkIndex_df160 1 = .ok (.iload_n 1, 1) := by decide +kernel
theorem dJ0_checkIndex_df160_2 : decode cJ0_checkIndex_df160 2 = .ok (.getstatic 1053, 3) := by decide +kernel
theorem dJ0_checkIndex_df160_5 : decode cJ0_checkIndex_df160 5 = .ok (.invokestatic 1059, 3) := by decide +kernel
theorem dJ0_checkIndex_df160_8 : decode cJ0_checkIndex_df160 8 = .ok (.pop, 1) := by decide +kernel
theorem dJ0_checkIndex_df160_9 : decode cJ0_checkIndex_df160 9 = .ok (.return_, 1) := by decide +kernel
theorem dJ0_checkBoundsBeginEnd_23922_0 : decode cJ0_checkBoundsBeginEnd_23922 0 = .ok (.iload_n 0, 1) := by decide +kernel
theorem dJ0_checkBoundsBeginEnd_23922_1 : decode cJ0_checkBoundsBeginEnd_23922 1 = .ok (.iload_n 1, 1) := by decide +kernel
theorem dJ0_checkBoundsBeginEnd_23922_2 : decode cJ0_checkBoundsBeginEnd_23922 2 = .ok (.iload_n 2, 1) := by decide +kernel
theorem dJ0_checkBoundsBeginEnd_23922_3 : decode cJ0_checkBoundsBeginEnd_23922 3 = .ok (.getstatic 1053, 3) := by decide +kernel
theorem dJ0_checkBoundsBeginEnd_23922_6 : decode cJ0_checkBoundsBeginEnd_23922 6 = .ok (.invokestatic 1062, 3) := by decide +kernel
theorem dJ0_checkBoundsBeginEnd_23922_9 : decode cJ0_checkBoundsBeginEnd_23922 9 = .ok (.pop, 1) := by decide +kernel
theorem dJ0_checkBoundsBeginEnd_23922_10 : decode cJ0_checkBoundsBeginEnd_23922 10 = .ok (.return_, 1) := by decide +kernel
theorem dJ1_charAt_3b067_0 : decode cJ1_charAt_3b067 0 = .ok (.iload_n 1, 1) := by decide +kernel
theorem dJ1_charAt_3b067_1 : decode cJ1_charAt_3b067 1 = .ok (.aload_n 0, 1) := by decide +kernel
theorem dJ1_charAt_3b067_2 : decode cJ1_charAt_3b067 2 = .ok (.arraylength, 1) := by decide +kernel
theorem dJ1_charAt_3b067_3 : decode cJ1_charAt_3b067 3 = .ok (.invokestatic 9, 3) := by decide +kernel
theorem dJ1_charAt_3b067_6 : decode cJ1_charAt_3b067 6 = .ok (.aload_n 0, 1) := by decide +kernel
theorem dJ1_charAt_3b067_7 : decode cJ1_charAt_3b067 7 = .ok (.iload_n 1, 1) := by decide +kernel
theorem dJ1_charAt_3b067_8 : decode cJ1_charAt_3b067 8 = .ok (.baload, 1) := by decide +kernel
theorem dJ1_charAt_3b067_9 : decode cJ1_charAt_3b067 9 = .ok (.sipush 255, 3) := by decide +kernel
theorem dJ1_charAt_3b067_12 : decode cJ1_charAt_3b067 12 = .ok (.iand, 1) := by decide +kernel
theorem dJ1_charAt_3b067_13 : decode cJ1_charAt_3b067 13 = .ok (.i2c, 1) := by decide +kernel
theorem dJ1_charAt_3b067_14 : decode cJ1_charAt_3b067 14 = .ok (.ireturn, 1) := by decide +kernel
theorem dJ1_canEncode_9a6ad_0 : decode cJ1_canEncode_9a6ad 0 = .ok (.iload_n 0, 1) := by decide +kernel
theorem dJ1_canEncode_9a6ad_1 : decode cJ1_canEncode_9a6ad 1 = .ok (.ifCond .lt 14, 3) := by decide +kernel
theorem dJ1_canEncode_9a6ad_4 : decode cJ1_canEncode_9a6ad 4 = .ok (.iload_n 0, 1) := by decide +kernel
theorem dJ1_canEncode_9a6ad_5 : decode cJ1_canEncode_9a6ad 5 = .ok (.sipush 255, 3) := by decide +kernel
theorem dJ1_canEncode_9a6ad_8 : decode cJ1_canEncode_9a6ad 8 = .ok (.if_icmp .gt 7, 3) := by decide +kernel
theorem dJ1_canEncode_9a6ad_11 : decode cJ1_canEncode_9a6ad 11 = .ok (.iconst 1, 1) := by decide +kernel
theorem dJ1_canEncode_9a6ad_12 : decode cJ1_canEncode_9a6ad 12 = .ok (.goto 4, 3) := by decide +kernel
theorem dJ1_canEncode_9a6ad_15 : decode cJ1_canEncode_9a6ad 15 = .ok (.iconst 0, 1) := by decide +kernel
theorem dJ1_canEncode_9a6ad_16 : decode cJ1_canEncode_9a6ad 16 = .ok (.ireturn, 1) := by decide +kernel
theorem dJ1_indexOf_4cfef_0 : decode cJ1_indexOf_4cfef 0 = .ok (.iload_n 1, 1) := by decide +kernel
theorem dJ1_indexOf_4cfef_1 : decode cJ1_indexOf_4cfef 1 = .ok (.invokestatic 88, 3) := by decide +kernel
theorem dJ1_indexOf_4cfef_4 : decode cJ1_indexOf_4cfef 4 = .ok (.ifCond .ne 5, 3) := by decide +kernel
theorem dJ1_indexOf_4cfef_7 : decode cJ1_indexOf_4cfef 7 = .ok (.iconst (-1), 1) := by decide +kernel
theorem dJ1_indexOf_4cfef_8 : decode cJ1_indexOf_4cfef 8 = .ok (.ireturn, 1) := by decide +kernel
theorem dJ1_indexOf_4cfef_9 : decode cJ1_indexOf_4cfef 9 = .ok (.iload_n 2, 1) := by decide +kernel
theorem dJ1_indexOf_4cfef_10 : decode cJ1_indexOf_4cfef 10 = .ok (.iconst 0, 1) := by decide +kernel
theorem dJ1_indexOf_4cfef_11 : decode cJ1_indexOf_4cfef 11 = .ok (.invokestatic 92, 3) := by decide +kernel
theorem dJ1_indexOf_4cfef_14 : decode cJ1_indexOf_4cfef 14 = .ok (.istore_n 2, 1) := by decide +kernel
theorem dJ1_indexOf_4cfef_15 : decode cJ1_indexOf_4cfef 15 = .ok (.iload_n 3, 1) := by decide +kernel
theorem dJ1_indexOf_4cfef_16 : decode cJ1_indexOf_4cfef 16 = .ok (.aload_n 0, 1) := by decide +kernel
theorem dJ1_indexOf_4cfef_17 : decode cJ1_indexOf_4cfef 17 = .ok (.arraylength, 1) := by decide +kernel
theorem dJ1_indexOf_4cfef_18 : decode cJ1_indexOf_4cfef 18 = .ok (.invokestatic 38, 3) := by decide +kernel
theorem dJ1_indexOf_4cfef_21 : decode cJ1_indexOf_4cfef 21 = .ok (.istore_n 3, 1) := by decide +kernel
theorem dJ1_indexOf_4cfef_22 : decode cJ1_indexOf_4cfef 22 = .ok (.iload_n 2, 1) := by decide +kernel
theorem dJ1_indexOf_4cfef_23 : decode cJ1_indexOf_4cfef 23 = .ok (.iload_n 3, 1) := by decide +kernel
theorem dJ1_indexOf_4cfef_24 : decode cJ1_indexOf_4cfef 24 = .ok (.if_icmp .lt 5, 3) := by decide +kernel
theorem dJ1_indexOf_4cfef_27 : decode cJ1_indexOf_4cfef 27 = .ok (.iconst (-1), 1) := by decide +kernel
theorem dJ1_indexOf_4cfef_28 : decode cJ1_indexOf_4cfef 28 = .ok (.ireturn, 1) := by decide +kernel
theorem dJ1_indexOf_4cfef_29 : decode cJ1_indexOf_4cfef 29 = .ok (.aload_n 0, 1) := by decide +kernel
theorem dJ1_indexOf_4cfef_30 : decode cJ1_indexOf_4cfef 30 = .ok (.iload_n 1, 1) := by decide +kernel
theorem dJ1_indexOf_4cfef_31 : decode cJ1_indexOf_4cfef 31 = .ok (.iload_n 2, 1) := by decide +kernel
theorem dJ1_indexOf_4cfef_32 : decode cJ1_indexOf_4cfef 32 = .ok (.iload_n 3, 1) := by decide +kernel
theorem dJ1_indexOf_4cfef_33 : decode cJ1_indexOf_4cfef 33 = .ok (.invokestatic 95, 3) := by decide +kernel
theorem dJ1_indexOf_4cfef_36 : decode cJ1_indexOf_4cfef 36 = .ok (.ireturn, 1) := by decide +kernel
theorem dJ1_indexOfChar_4cfef_0 : decode cJ1_indexOfChar_4cfef 0 = .ok (.iload_n 1, 1) := by decide +kernel
theorem dJ1_indexOfChar_4cfef_1 : decode cJ1_indexOfChar_4cfef 1 = .ok (.i2b, 1) := by decide +kernel
theorem dJ1_indexOfChar_4cfef_2 : decode cJ1_indexOfChar_4cfef 2 = .ok (.istore 4, 2) := by decide +kernel
theorem dJ1_indexOfChar_4cfef_4 : decode cJ1_indexOfChar_4cfef 4 = .ok (.iload_n 2, 1) := by decide +kernel
theorem dJ1_indexOfChar_4cfef_5 : decode cJ1_indexOfChar_4cfef 5 = .ok (.istore 5, 2) := by decide +kernel
theorem dJ1_indexOfChar_4cfef_7 : decode cJ1_indexOfChar_4cfef 7 = .ok (.iload 5, 2) := by decide +kernel
theorem dJ1_indexOfChar_4cfef_9 : decode cJ1_indexOfChar_4cfef 9 = .ok (.iload_n 3, 1) := by decide +kernel
theorem dJ1_indexOfChar_4cfef_10 : decode cJ1_indexOfChar_4cfef 10 = .ok (.if_icmp .ge 21, 3) := by decide +kernel
theorem dJ1_indexOfChar_4cfef_13 : decode cJ1_indexOfChar_4cfef 13 = .ok (.aload_n 0, 1) := by decide +kernel
theorem dJ1_indexOfChar_4cfef_14 : decode cJ1_indexOfChar_4cfef 14 = .ok (.iload 5, 2) := by decide +kernel
theorem dJ1_indexOfChar_4cfef_16 : decode cJ1_indexOfChar_4cfef 16 = .ok (.baload, 1) := by decide +kernel
theorem dJ1_indexOfChar_4cfef_17 : decode cJ1_indexOfChar_4cfef 17 = .ok (.iload 4, 2) := by decide +kernel
theorem dJ1_indexOfChar_4cfef_19 : decode cJ1_indexOfChar_4cfef 19 = .ok (.if_icmp .ne 6, 3) := by decide +kernel
theorem dJ1_indexOfChar_4cfef_22 : decode cJ1_indexOfChar_4cfef 22 = .ok (.iload 5, 2) := by decide +kernel
theorem dJ1_indexOfChar_4cfef_24 : decode cJ1_indexOfChar_4cfef 24 = .ok (.ireturn, 1) := by decide +kernel
theorem dJ1_indexOfChar_4cfef_25 : decode cJ1_indexOfChar_4cfef 25 = .ok (.iinc 5 1, 3) := by decide +kernel
theorem dJ1_indexOfChar_4cfef_28 : decode cJ1_indexOfChar_4cfef 28 = .ok (.goto (-21), 3) := by decide +kernel
theorem dJ1_indexOfChar_4cfef_31 : decode cJ1_indexOfChar_4cfef 31 = .ok (.iconst (-1), 1) := by decide +kernel
theorem dJ1_indexOfChar_4cfef_32 : decode cJ1_indexOfChar_4cfef 32 = .ok (.ireturn, 1) := by decide +kernel
theorem dJ2_getChar_3b067_0 : decode cJ2_getChar_3b067 0 = .ok (.getstatic 44, 3) := by decide +kernel
theorem dJ2_getChar_3b067_3 : decode cJ2_getChar_3b067 3 = .ok (.ifCond .ne 25, 3) := by decide +kernel
theorem dJ2_getChar_3b067_6 : decode cJ2_getChar_3b067 6 = .ok (.iload_n 1, 1) := by decide +kernel
theorem dJ2_getChar_3b067_7 : decode cJ2_getChar_3b067 7 = .ok (.ifCond .lt 11, 3) := by decide +kernel
theorem dJ2_getChar_3b067_10 : decode cJ2_getChar_3b067 10 = .ok (.iload_n 1, 1) := by decide +kernel
theorem dJ2_getChar_3b067_11 : decode cJ2_getChar_3b067 11 = .ok (.aload_n 0, 1) := by decide +kernel
theorem dJ2_getChar_3b067_12 : decode cJ2_getChar_3b067 12 = .ok (.invokestatic 48, 3) := by decide +kernel
theorem dJ2_getChar_3b067_15 : decode cJ2_getChar_3b067 15 = .ok (.if_icmp .lt 13, 3) := by decide +kernel
theorem dJ2_getChar_3b067_18 : decode cJ2_getChar_3b067 18 = .ok (.new 52, 3) := by decide +kernel
theorem dJ2_getChar_3b067_21 : decode cJ2_getChar_3b067 21 = .ok (.dup, 1) := by decide +kernel
theorem dJ2_getChar_3b067_22 : decode cJ2_getChar_3b067 22 = .ok (.ldc 54, 2) := by decide +kernel
theorem dJ2_getChar_3b067_24 : decode cJ2_getChar_3b067 24 = .ok (.invokespecial 56, 3) := by decide +kernel
theorem dJ2_getChar_3b067_27 : decode cJ2_getChar_3b067 27 = .ok (.athrow, 1) := by decide +kernel
theorem dJ2_getChar_3b067_28 : decode cJ2_getChar_3b067 28 = .ok (.iload_n 1, 1) := by decide +kernel
theorem dJ2_getChar_3b067_29 : decode cJ2_getChar_3b067 29 = .ok (.iconst 1, 1) := by decide +kernel
theorem dJ2_getChar_3b067_30 : decode cJ2_getChar_3b067 30 = .ok (.ishl, 1) := by decide +kernel
theorem dJ2_getChar_3b067_31 : decode cJ2_getChar_3b067 31 = .ok (.istore_n 1, 1) := by decide +kernel
theorem dJ2_getChar_3b067_32 : decode cJ2_getChar_3b067 32 = .ok (.aload_n 0, 1) := by decide +kernel
theorem dJ2_getChar_3b067_33 : decode cJ2_getChar_3b067 33 = .ok (.iload_n 1, 1) := by decide +kernel
theorem dJ2_getChar_3b067_34 : decode cJ2_getChar_3b067 34 = .ok (.iinc 1 1, 3) := by decide +kernel
theorem dJ2_getChar_3b067_37 : decode cJ2_getChar_3b067 37 = .ok (.baload, 1) := by decide +kernel
theorem dJ2_getChar_3b067_38 : decode cJ2_getChar_3b067 38 = .ok (.sipush 255, 3) := by decide +kernel
theorem dJ2_getChar_3b067_41 : decode cJ2_getChar_3b067 41 = .ok (.iand, 1) := by decide +kernel
theorem dJ2_getChar_3b067_42 : decode cJ2_getChar_3b067 42 = .ok (.getstatic 59, 3) := by decide +kernel
theorem dJ2_getChar_3b067_45 : decode cJ2_getChar_3b067 45 = .ok (.ishl, 1) := by decide +kernel
theorem dJ2_getChar_3b067_46 : decode cJ2_getChar_3b067 46 = .ok (.aload_n 0, 1) := by decide +kernel
theorem dJ2_getChar_3b067_47 : decode cJ2_getChar_3b067 47 = .ok (.iload_n 1, 1) := by decide +kernel
theorem dJ2_getChar_3b067_48 : decode cJ2_getChar_3b067 48 = .ok (.baload, 1) := by decide +kernel
theorem dJ2_getChar_3b067_49 : decode cJ2_getChar_3b067 49 = .ok (.sipush 255, 3) := by decide +kernel
theorem dJ2_getChar_3b067_52 : decode cJ2_getChar_3b067 52 = .ok (.iand, 1) := by decide +kernel
theorem dJ2_getChar_3b067_53 : decode cJ2_getChar_3b067 53 = .ok (.getstatic 63, 3) := by decide +kernel
theorem dJ2_getChar_3b067_56 : decode cJ2_getChar_3b067 56 = .ok (.ishl, 1) := by decide +kernel
theorem dJ2_getChar_3b067_57 : decode cJ2_getChar_3b067 57 = .ok (.ior, 1) := by decide +kernel
theorem dJ2_getChar_3b067_58 : decode cJ2_getChar_3b067 58 = .ok (.i2c, 1) := by decide +kernel
theorem dJ2_getChar_3b067_59 : decode cJ2_getChar_3b067 59 = .ok (.ireturn, 1) := by decide +kernel
theorem dJ2_length_9d52b_0 : decode cJ2_length_9d52b 0 = .ok (.aload_n 0, 1) := by decide +kernel
theorem dJ2_length_9d52b_1 : decode cJ2_length_9d52b 1 = .ok (.arraylength, 1) := by decide +kernel
theorem dJ2_length_9d52b_2 : decode cJ2_length_9d52b 2 = .ok (.iconst 1, 1) := by decide +kernel
end
section
theorem dJ2_length_9d52b_3 : decode cJ2_length_9d52b 3 = .ok (.ishr, 1) := by decide +kernel
theorem dJ2_length_9d52b_4 : decode cJ2_length_9d52b 4 = .ok (.ireturn, 1) := by decide +kernel
theorem dJ2_indexOf_4cfef_0 : decode cJ2_indexOf_4cfef 0 = .ok (.iload_n 2, 1) := by decide +kernel
theorem dJ2_indexOf_4cfef_1 : decode cJ2_indexOf_4cfef 1 = .ok (.iconst 0, 1) := by decide +kernel
theorem dJ2_indexOf_4cfef_2 : decode cJ2_indexOf_4cfef 2 = .ok (.invokestatic 224, 3) := by decide +kernel
theorem dJ2_indexOf_4cfef_5 : decode cJ2_indexOf_4cfef 5 = .ok (.istore_n 2, 1) := by decide +kernel
theorem dJ2_indexOf_4cfef_6 : decode cJ2_indexOf_4cfef 6 = .ok (.iload_n 3, 1) := by decide +kernel
theorem dJ2_indexOf_4cfef_7 : decode cJ2_indexOf_4cfef 7 = .ok (.aload_n 0, 1) := by decide +kernel
theorem dJ2_indexOf_4cfef_8 : decode cJ2_indexOf_4cfef 8 = .ok (.arraylength, 1) := by decide +kernel
theorem dJ2_indexOf_4cfef_9 : decode cJ2_indexOf_4cfef 9 = .ok (.iconst 1, 1) := by decide +kernel
theorem dJ2_indexOf_4cfef_10 : decode cJ2_indexOf_4cfef 10 = .ok (.ishr, 1) := by decide +kernel
theorem dJ2_indexOf_4cfef_11 : decode cJ2_indexOf_4cfef 11 = .ok (.invokestatic 183, 3) := by decide +kernel
theorem dJ2_indexOf_4cfef_14 : decode cJ2_indexOf_4cfef 14 = .ok (.istore_n 3, 1) := by decide +kernel
theorem dJ2_indexOf_4cfef_15 : decode cJ2_indexOf_4cfef 15 = .ok (.iload_n 2, 1) := by decide +kernel
theorem dJ2_indexOf_4cfef_16 : decode cJ2_indexOf_4cfef 16 = .ok (.iload_n 3, 1) := by decide +kernel
theorem dJ2_indexOf_4cfef_17 : decode cJ2_indexOf_4cfef 17 = .ok (.if_icmp .lt 5, 3) := by decide +kernel
theorem dJ2_indexOf_4cfef_20 : decode cJ2_indexOf_4cfef 20 = .ok (.iconst (-1), 1) := by decide +kernel
theorem dJ2_indexOf_4cfef_21 : decode cJ2_indexOf_4cfef 21 = .ok (.ireturn, 1) := by decide +kernel
theorem dJ2_indexOf_4cfef_22 : decode cJ2_indexOf_4cfef 22 = .ok (.iload_n 1, 1) := by decide +kernel
theorem dJ2_indexOf_4cfef_23 : decode cJ2_indexOf_4cfef 23 = .ok (.ldc 227, 2) := by decide +kernel
theorem dJ2_indexOf_4cfef_25 : decode cJ2_indexOf_4cfef 25 = .ok (.if_icmp .ge 11, 3) := by decide +kernel
theorem dJ2_indexOf_4cfef_28 : decode cJ2_indexOf_4cfef 28 = .ok (.aload_n 0, 1) := by decide +kernel
theorem dJ2_indexOf_4cfef_29 : decode cJ2_indexOf_4cfef 29 = .ok (.iload_n 1, 1) := by decide +kernel
theorem dJ2_indexOf_4cfef_30 : decode cJ2_indexOf_4cfef 30 = .ok (.iload_n 2, 1) := by decide +kernel
theorem dJ2_indexOf_4cfef_31 : decode cJ2_indexOf_4cfef 31 = .ok (.iload_n 3, 1) := by decide +kernel
theorem dJ2_indexOf_4cfef_32 : decode cJ2_indexOf_4cfef 32 = .ok (.invokestatic 228, 3) := by decide +kernel
theorem dJ2_indexOf_4cfef_35 : decode cJ2_indexOf_4cfef 35 = .ok (.ireturn, 1) := by decide +kernel
theorem dJ2_indexOf_4cfef_36 : decode cJ2_indexOf_4cfef 36 = .ok (.aload_n 0, 1) := by decide +kernel
theorem dJ2_indexOf_4cfef_37 : decode cJ2_indexOf_4cfef 37 = .ok (.iload_n 1, 1) := by decide +kernel
theorem dJ2_indexOf_4cfef_38 : decode cJ2_indexOf_4cfef 38 = .ok (.iload_n 2, 1) := by decide +kernel
theorem dJ2_indexOf_4cfef_39 : decode cJ2_indexOf_4cfef 39 = .ok (.iload_n 3, 1) := by decide +kernel
theorem dJ2_indexOf_4cfef_40 : decode cJ2_indexOf_4cfef 40 = .ok (.invokestatic 232, 3) := by decide +kernel
theorem dJ2_indexOf_4cfef_43 : decode cJ2_indexOf_4cfef 43 = .ok (.ireturn, 1) := by decide +kernel
theorem dJ2_indexOfChar_4cfef_0 : decode cJ2_indexOfChar_4cfef 0 = .ok (.iload_n 2, 1) := by decide +kernel
theorem dJ2_indexOfChar_4cfef_1 : decode cJ2_indexOfChar_4cfef 1 = .ok (.iload_n 3, 1) := by decide +kernel
theorem dJ2_indexOfChar_4cfef_2 : decode cJ2_indexOfChar_4cfef 2 = .ok (.aload_n 0, 1) := by decide +kernel
theorem dJ2_indexOfChar_4cfef_3 : decode cJ2_indexOfChar_4cfef 3 = .ok (.invokestatic 96, 3) := by decide +kernel
theorem dJ2_indexOfChar_4cfef_6 : decode cJ2_indexOfChar_4cfef 6 = .ok (.aload_n 0, 1) := by decide +kernel
theorem dJ2_indexOfChar_4cfef_7 : decode cJ2_indexOfChar_4cfef 7 = .ok (.iload_n 1, 1) := by decide +kernel
theorem dJ2_indexOfChar_4cfef_8 : decode cJ2_indexOfChar_4cfef 8 = .ok (.iload_n 2, 1) := by decide +kernel
theorem dJ2_indexOfChar_4cfef_9 : decode cJ2_indexOfChar_4cfef 9 = .ok (.iload_n 3, 1) := by decide +kernel
theorem dJ2_indexOfChar_4cfef_10 : decode cJ2_indexOfChar_4cfef 10 = .ok (.invokestatic 244, 3) := by decide +kernel
theorem dJ2_indexOfChar_4cfef_13 : decode cJ2_indexOfChar_4cfef 13 = .ok (.ireturn, 1) := by decide +kernel
theorem dJ2_indexOfCharUnsafe_4cfef_0 : decode cJ2_indexOfCharUnsafe_4cfef 0 = .ok (.iload_n 2, 1) := by decide +kernel
theorem dJ2_indexOfCharUnsafe_4cfef_1 : decode cJ2_indexOfCharUnsafe_4cfef 1 = .ok (.istore 4, 2) := by decide +kernel
theorem dJ2_indexOfCharUnsafe_4cfef_3 : decode cJ2_indexOfCharUnsafe_4cfef 3 = .ok (.iload 4, 2) := by decide +kernel
theorem dJ2_indexOfCharUnsafe_4cfef_5 : decode cJ2_indexOfCharUnsafe_4cfef 5 = .ok (.iload_n 3, 1) := by decide +kernel
theorem dJ2_indexOfCharUnsafe_4cfef_6 : decode cJ2_indexOfCharUnsafe_4cfef 6 = .ok (.if_icmp .ge 22, 3) := by decide +kernel
theorem dJ2_indexOfCharUnsafe_4cfef_9 : decode cJ2_indexOfCharUnsafe_4cfef 9 = .ok (.aload_n 0, 1) := by decide +kernel
theorem dJ2_indexOfCharUnsafe_4cfef_10 : decode cJ2_indexOfCharUnsafe_4cfef 10 = .ok (.iload 4, 2) := by decide +kernel
theorem dJ2_indexOfCharUnsafe_4cfef_12 : decode cJ2_indexOfCharUnsafe_4cfef 12 = .ok (.invokestatic 71, 3) := by decide +kernel
theorem dJ2_indexOfCharUnsafe_4cfef_15 : decode cJ2_indexOfCharUnsafe_4cfef 15 = .ok (.iload_n 1, 1) := by decide +kernel
theorem dJ2_indexOfCharUnsafe_4cfef_16 : decode cJ2_indexOfCharUnsafe_4cfef 16 = .ok (.if_icmp .ne 6, 3) := by decide +kernel
theorem dJ2_indexOfCharUnsafe_4cfef_19 : decode cJ2_indexOfCharUnsafe_4cfef 19 = .ok (.iload 4, 2) := by decide +kernel
theorem dJ2_indexOfCharUnsafe_4cfef_21 : decode cJ2_indexOfCharUnsafe_4cfef 21 = .ok (.ireturn, 1) := by decide +kernel
theorem dJ2_indexOfCharUnsafe_4cfef_22 : decode cJ2_indexOfCharUnsafe_4cfef 22 = .ok (.iinc 4 1, 3) := by decide +kernel
theorem dJ2_indexOfCharUnsafe_4cfef_25 : decode cJ2_indexOfCharUnsafe_4cfef 25 = .ok (.goto (-22), 3) := by decide +kernel
theorem dJ2_indexOfCharUnsafe_4cfef_28 : decode cJ2_indexOfCharUnsafe_4cfef 28 = .ok (.iconst (-1), 1) := by decide +kernel
theorem dJ2_indexOfCharUnsafe_4cfef_29 : decode cJ2_indexOfCharUnsafe_4cfef 29 = .ok (.ireturn, 1) := by decide +kernel
theorem dJ2_indexOfSupplementary_4cfef_0 : decode cJ2_indexOfSupplementary_4cfef 0 = .ok (.iload_n 1, 1) := by decide +kernel
theorem dJ2_indexOfSupplementary_4cfef_1 : decode cJ2_indexOfSupplementary_4cfef 1 = .ok (.invokestatic 164, 3) := by decide +kernel
theorem dJ2_indexOfSupplementary_4cfef_4 : decode cJ2_indexOfSupplementary_4cfef 4 = .ok (.ifCond .eq 65, 3) := by decide +kernel
theorem dJ2_indexOfSupplementary_4cfef_7 : decode cJ2_indexOfSupplementary_4cfef 7 = .ok (.iload_n 1, 1) := by decide +kernel
theorem dJ2_indexOfSupplementary_4cfef_8 : decode cJ2_indexOfSupplementary_4cfef 8 = .ok (.invokestatic 157, 3) := by decide +kernel
theorem dJ2_indexOfSupplementary_4cfef_11 : decode cJ2_indexOfSupplementary_4cfef 11 = .ok (.istore 4, 2) := by decide +kernel
theorem dJ2_indexOfSupplementary_4cfef_13 : decode cJ2_indexOfSupplementary_4cfef 13 = .ok (.iload_n 1, 1) := by decide +kernel
theorem dJ2_indexOfSupplementary_4cfef_14 : decode cJ2_indexOfSupplementary_4cfef 14 = .ok (.invokestatic 161, 3) := by decide +kernel
theorem dJ2_indexOfSupplementary_4cfef_17 : decode cJ2_indexOfSupplementary_4cfef 17 = .ok (.istore 5, 2) := by decide +kernel
theorem dJ2_indexOfSupplementary_4cfef_19 : decode cJ2_indexOfSupplementary_4cfef 19 = .ok (.iload_n 2, 1) := by decide +kernel
theorem dJ2_indexOfSupplementary_4cfef_20 : decode cJ2_indexOfSupplementary_4cfef 20 = .ok (.iload_n 3, 1) := by decide +kernel
theorem dJ2_indexOfSupplementary_4cfef_21 : decode cJ2_indexOfSupplementary_4cfef 21 = .ok (.aload_n 0, 1) := by decide +kernel
theorem dJ2_indexOfSupplementary_4cfef_22 : decode cJ2_indexOfSupplementary_4cfef 22 = .ok (.invokestatic 96, 3) := by decide +kernel
theorem dJ2_indexOfSupplementary_4cfef_25 : decode cJ2_indexOfSupplementary_4cfef 25 = .ok (.iload_n 2, 1) := by decide +kernel
theorem dJ2_indexOfSupplementary_4cfef_26 : decode cJ2_indexOfSupplementary_4cfef 26 = .ok (.istore 6, 2) := by decide +kernel
theorem dJ2_indexOfSupplementary_4cfef_28 : decode cJ2_indexOfSupplementary_4cfef 28 = .ok (.iload 6, 2) := by decide +kernel
theorem dJ2_indexOfSupplementary_4cfef_30 : decode cJ2_indexOfSupplementary_4cfef 30 = .ok (.iload_n 3, 1) := by decide +kernel
theorem dJ2_indexOfSupplementary_4cfef_31 : decode cJ2_indexOfSupplementary_4cfef 31 = .ok (.iconst 1, 1) := by decide +kernel
theorem dJ2_indexOfSupplementary_4cfef_32 : decode cJ2_indexOfSupplementary_4cfef 32 = .ok (.isub, 1) := by decide +kernel
theorem dJ2_indexOfSupplementary_4cfef_33 : decode cJ2_indexOfSupplementary_4cfef 33 = .ok (.if_icmp .ge 36, 3) := by decide +kernel
theorem dJ2_indexOfSupplementary_4cfef_36 : decode cJ2_indexOfSupplementary_4cfef 36 = .ok (.aload_n 0, 1) := by decide +kernel
theorem dJ2_indexOfSupplementary_4cfef_37 : decode cJ2_indexOfSupplementary_4cfef 37 = .ok (.iload 6, 2) := by decide +kernel
theorem dJ2_indexOfSupplementary_4cfef_39 : decode cJ2_indexOfSupplementary_4cfef 39 = .ok (.invokestatic 71, 3) := by decide +kernel
theorem dJ2_indexOfSupplementary_4cfef_42 : decode cJ2_indexOfSupplementary_4cfef 42 = .ok (.iload 4, 2) := by decide +kernel
theorem dJ2_indexOfSupplementary_4cfef_44 : decode cJ2_indexOfSupplementary_4cfef 44 = .ok (.if_icmp .ne 19, 3) := by decide +kernel
theorem dJ2_indexOfSupplementary_4cfef_47 : decode cJ2_indexOfSupplementary_4cfef 47 = .ok (.aload_n 0, 1) := by decide +kernel
theorem dJ2_indexOfSupplementary_4cfef_48 : decode cJ2_indexOfSupplementary_4cfef 48 = .ok (.iload 6, 2) := by decide +kernel
theorem dJ2_indexOfSupplementary_4cfef_50 : decode cJ2_indexOfSupplementary_4cfef 50 = .ok (.iconst 1, 1) := by decide +kernel
theorem dJ2_indexOfSupplementary_4cfef_51 : decode cJ2_indexOfSupplementary_4cfef 51 = .ok (.iadd, 1) := by decide +kernel
theorem dJ2_indexOfSupplementary_4cfef_52 : decode cJ2_indexOfSupplementary_4cfef 52 = .ok (.invokestatic 71, 3) := by decide +kernel
theorem dJ2_indexOfSupplementary_4cfef_55 : decode cJ2_indexOfSupplementary_4cfef 55 = .ok (.iload 5, 2) := by decide +kernel
theorem dJ2_indexOfSupplementary_4cfef_57 : decode cJ2_indexOfSupplementary_4cfef 57 = .ok (.if_icmp .ne 6, 3) := by decide +kernel
theorem dJ2_indexOfSupplementary_4cfef_60 : decode cJ2_indexOfSupplementary_4cfef 60 = .ok (.iload 6, 2) := by decide +kernel
theorem dJ2_indexOfSupplementary_4cfef_62 : decode cJ2_indexOfSupplementary_4cfef 62 = .ok (.ireturn, 1) := by decide +kernel
theorem dJ2_indexOfSupplementary_4cfef_63 : decode cJ2_indexOfSupplementary_4cfef 63 = .ok (.iinc 6 1, 3) := by decide +kernel
theorem dJ2_indexOfSupplementary_4cfef_66 : decode cJ2_indexOfSupplementary_4cfef 66 = .ok (.goto (-38), 3) := by decide +kernel
theorem dJ2_indexOfSupplementary_4cfef_69 : decode cJ2_indexOfSupplementary_4cfef 69 = .ok (.iconst (-1), 1) := by decide +kernel
theorem dJ2_indexOfSupplementary_4cfef_70 : decode cJ2_indexOfSupplementary_4cfef 70 = .ok (.ireturn, 1) := by decide +kernel
theorem dJ2_charAt_3b067_0 : decode cJ2_charAt_3b067 0 = .ok (.iload_n 1, 1) := by decide +kernel
theorem dJ2_charAt_3b067_1 : decode cJ2_charAt_3b067 1 = .ok (.aload_n 0, 1) := by decide +kernel
theorem dJ2_charAt_3b067_2 : decode cJ2_charAt_3b067 2 = .ok (.invokestatic 67, 3) := by decide +kernel
theorem dJ2_charAt_3b067_5 : decode cJ2_charAt_3b067 5 = .ok (.aload_n 0, 1) := by decide +kernel
theorem dJ2_charAt_3b067_6 : decode cJ2_charAt_3b067 6 = .ok (.iload_n 1, 1) := by decide +kernel
theorem dJ2_charAt_3b067_7 : decode cJ2_charAt_3b067 7 = .ok (.invokestatic 71, 3) := by decide +kernel
theorem dJ2_charAt_3b067_10 : decode cJ2_charAt_3b067 10 = .ok (.ireturn, 1) := by decide +kernel
theorem dJ2_checkIndex_2214a_0 : decode cJ2_checkIndex_2214a 0 = .ok (.iload_n 0, 1) := by decide +kernel
theorem dJ2_checkIndex_2214a_1 : decode cJ2_checkIndex_2214a 1 = .ok (.aload_n 1, 1) := by decide +kernel
theorem dJ2_checkIndex_2214a_2 : decode cJ2_checkIndex_2214a 2 = .ok (.invokestatic 48, 3) := by decide +kernel
theorem dJ2_checkIndex_2214a_5 : decode cJ2_checkIndex_2214a 5 = .ok (.invokestatic 414, 3) := by decide +kernel
theorem dJ2_checkIndex_2214a_8 : decode cJ2_checkIndex_2214a 8 = .ok (.return_, 1) := by decide +kernel
theorem dJ2_checkBoundsBeginEnd_d044e_0 : decode cJ2_checkBoundsBeginEnd_d044e 0 = .ok (.iload_n 0, 1) := by decide +kernel
theorem dJ2_checkBoundsBeginEnd_d044e_1 : decode cJ2_checkBoundsBeginEnd_d044e 1 = .ok (.iload_n 1, 1) := by decide +kernel
theorem dJ2_checkBoundsBeginEnd_d044e_2 : decode cJ2_checkBoundsBeginEnd_d044e 2 = .ok (.aload_n 2, 1) := by decide +kernel
theorem dJ2_checkBoundsBeginEnd_d044e_3 : decode cJ2_checkBoundsBeginEnd_d044e 3 = .ok (.invokestatic 48, 3) := by decide +kernel
theorem dJ2_checkBoundsBeginEnd_d044e_6 : decode cJ2_checkBoundsBeginEnd_d044e 6 = .ok (.invokestatic 241, 3) := by decide +kernel
theorem dJ2_checkBoundsBeginEnd_d044e_9 : decode cJ2_checkBoundsBeginEnd_d044e 9 = .ok (.return_, 1) := by decide +kernel
theorem dJ3_checkIndex_8e157_0 : decode cJ3_checkIndex_8e157 0 = .ok (.iload_n 0, 1) := by decide +kernel
theorem dJ3_checkIndex_8e157_1 : decode cJ3_checkIndex_8e157 1 = .ok (.ifCond .lt 8, 3) := by decide +kernel
theorem dJ3_checkIndex_8e157_4 : decode cJ3_checkIndex_8e157 4 = .ok (.iload_n 0, 1) := by decide +kernel
theorem dJ3_checkIndex_8e157_5 : decode cJ3_checkIndex_8e157 5 = .ok (.iload_n 1, 1) := by decide +kernel
theorem dJ3_checkIndex_8e157_6 : decode cJ3_checkIndex_8e157 6 = .ok (.if_icmp .lt 10, 3) := by decide +kernel
theorem dJ3_checkIndex_8e157_9 : decode cJ3_checkIndex_8e157 9 = .ok (.aload_n 2, 1) := by decide +kernel
theorem dJ3_checkIndex_8e157_10 : decode cJ3_checkIndex_8e157 10 = .ok (.iload_n 0, 1) := by decide +kernel
theorem dJ3_checkIndex_8e157_11 : decode cJ3_checkIndex_8e157 11 = .ok (.iload_n 1, 1) := by decide +kernel
theorem dJ3_checkIndex_8e157_12 : decode cJ3_checkIndex_8e157 12 = .ok (.invokestatic 95, 3) := by decide +kernel
theorem dJ3_checkIndex_8e157_15 : decode cJ3_checkIndex_8e157 15 = .ok (.athrow, 1) := by decide +kernel
theorem dJ3_checkIndex_8e157_16 : decode cJ3_checkIndex_8e157 16 = .ok (.iload_n 0, 1) := by decide +kernel
theorem dJ3_checkIndex_8e157_17 : decode cJ3_checkIndex_8e157 17 = .ok (.ireturn, 1) := by decide +kernel
theorem dJ3_checkFromToIndex_8c36e_0 : decode cJ3_checkFromToIndex_8c36e 0 = .ok (.iload_n 0, 1) := by decide +kernel
theorem dJ3_checkFromToIndex_8c36e_1 : decode cJ3_checkFromToIndex_8c36e 1 = .ok (.ifCond .lt 13, 3) := by decide +kernel
theorem dJ3_checkFromToIndex_8c36e_4 : decode cJ3_checkFromToIndex_8c36e 4 = .ok (.iload_n 0, 1) := by decide +kernel
theorem dJ3_checkFromToIndex_8c36e_5 : decode cJ3_checkFromToIndex_8c36e 5 = .ok (.iload_n 1, 1) := by decide +kernel
theorem dJ3_checkFromToIndex_8c36e_6 : decode cJ3_checkFromToIndex_8c36e 6 = .ok (.if_icmp .gt 8, 3) := by decide +kernel
theorem dJ3_checkFromToIndex_8c36e_9 : decode cJ3_checkFromToIndex_8c36e 9 = .ok (.iload_n 1, 1) := by decide +kernel
theorem dJ3_checkFromToIndex_8c36e_10 : decode cJ3_checkFromToIndex_8c36e 10 = .ok (.iload_n 2, 1) := by decide +kernel
theorem dJ3_checkFromToIndex_8c36e_11 : decode cJ3_checkFromToIndex_8c36e 11 = .ok (.if_icmp .le 11, 3) := by decide +kernel
theorem dJ3_checkFromToIndex_8c36e_14 : decode cJ3_checkFromToIndex_8c36e 14 = .ok (.aload_n 3, 1) := by decide +kernel
theorem dJ3_checkFromToIndex_8c36e_15 : decode cJ3_checkFromToIndex_8c36e 15 = .ok (.iload_n 0, 1) := by decide +kernel
theorem dJ3_checkFromToIndex_8c36e_16 : decode cJ3_checkFromToIndex_8c36e 16 = .ok (.iload_n 1, 1) := by decide +kernel
theorem dJ3_checkFromToIndex_8c36e_17 : decode cJ3_checkFromToIndex_8c36e 17 = .ok (.iload_n 2, 1) := by decide +kernel
theorem dJ3_checkFromToIndex_8c36e_18 : decode cJ3_checkFromToIndex_8c36e 18 = .ok (.invokestatic 99, 3) := by decide +kernel
theorem dJ3_checkFromToIndex_8c36e_21 : decode cJ3_checkFromToIndex_8c36e 21 = .ok (.athrow, 1) := by decide +kernel
theorem dJ3_checkFromToIndex_8c36e_22 : decode cJ3_checkFromToIndex_8c36e 22 = .ok (.iload_n 0, 1) := by decide +kernel
theorem dJ3_checkFromToIndex_8c36e_23 : decode cJ3_checkFromToIndex_8c36e 23 = .ok (.ireturn, 1) := by decide +kernel
theorem dL_law_0 : decode cL_law 0 = .ok (.new 7, 3) := by decide +kernel
theorem dL_law_3 : decode cL_law 3 = .ok (.dup, 1) := by decide +kernel
theorem dL_law_4 : decode cL_law 4 = .ok (.invokespecial 9, 3) := by decide +kernel
theorem dL_law_7 : decode cL_law 7 = .ok (.astore_n 1, 1) := by decide +kernel
theorem dL_law_8 : decode cL_law 8 = .ok (.new 10, 3) := by decide +kernel
theorem dL_law_11 : decode cL_law 11 = .ok (.dup, 1) := by decide +kernel
theorem dL_law_12 : decode cL_law 12 = .ok (.invokespecial 12, 3) := by decide +kernel
theorem dL_law_15 : decode cL_law 15 = .ok (.astore_n 2, 1) := by decide +kernel
theorem dL_law_16 : decode cL_law 16 = .ok (.iconst 0, 1) := by decide +kernel
theorem dL_law_17 : decode cL_law 17 = .ok (.istore_n 3, 1) := by decide +kernel
theorem dL_law_18 : decode cL_law 18 = .ok (.iload_n 3, 1) := by decide +kernel
theorem dL_law_19 : decode cL_law 19 = .ok (.aload_n 0, 1) := by decide +kernel
theorem dL_law_20 : decode cL_law 20 = .ok (.arraylength, 1) := by decide +kernel
theorem dL_law_21 : decode cL_law 21 = .ok (.bipush 6, 2) := by decide +kernel
theorem dL_law_23 : decode cL_law 23 = .ok (.isub, 1) := by decide +kernel
theorem dL_law_24 : decode cL_law 24 = .ok (.if_icmp .gt 1170, 3) := by decide +kernel
theorem dL_law_27 : decode cL_law 27 = .ok (.aload_n 0, 1) := by decide +kernel
theorem dL_law_28 : decode cL_law 28 = .ok (.iload_n 3, 1) := by decide +kernel
theorem dL_law_29 : decode cL_law 29 = .ok (.iaload, 1) := by decide +kernel
theorem dL_law_30 : decode cL_law 30 = .ok (.bipush 63, 2) := by decide +kernel
theorem dL_law_32 : decode cL_law 32 = .ok (.iand, 1) := by decide +kernel
theorem dL_law_33 : decode cL_law 33 = .ok (.tableswitch 1155 0 33 #[151, 174, 187, 220, 253, 286, 329, 362, 405, 428, 471, 504, 527, 540, 563, 596, 619, 642, 685, 728, 771, 794, 817, 850, 893, 957, 981, 1014, 1037, 1050, 1063, 1106, 1119, 1132], 151) := by decide +kernel
theorem dL_law_184 : decode cL_law 184 = .ok (.aload_n 1, 1) := by decide +kernel
theorem dL_law_185 : decode cL_law 185 = .ok (.aload_n 0, 1) := by decide +kernel
theorem dL_law_186 : decode cL_law 186 = .ok (.iload_n 3, 1) := by decide +kernel
theorem dL_law_187 : decode cL_law 187 = .ok (.iconst 1, 1) := by decide +kernel
theorem dL_law_188 : decode cL_law 188 = .ok (.iadd, 1) := by decide +kernel
theorem dL_law_189 : decode cL_law 189 = .ok (.iaload, 1) := by decide +kernel
theorem dL_law_190 : decode cL_law 190 = .ok (.invokevirtual 13, 3) := by decide +kernel
theorem dL_law_193 : decode cL_law 193 = .ok (.aload_n 2, 1) := by decide +kernel
theorem dL_law_194 : decode cL_law 194 = .ok (.aload_n 0, 1) := by decide +kernel
theorem dL_law_195 : decode cL_law 195 = .ok (.iload_n 3, 1) := by decide +kernel
theorem dL_law_196 : decode cL_law 196 = .ok (.iconst 1, 1) := by decide +kernel
theorem dL_law_197 : decode cL_law 197 = .ok (.iadd, 1) := by decide +kernel
theorem dL_law_198 : decode cL_law 198 = .ok (.iaload, 1) := by decide +kernel
theorem dL_law_199 : decode cL_law 199 = .ok (.invokevirtual 17, 3) := by decide +kernel
theorem dL_law_202 : decode cL_law 202 = .ok (.if_icmp .eq 986, 3) := by decide +kernel
theorem dL_law_205 : decode cL_law 205 = .ok (.iconst 0, 1) := by decide +kernel
theorem dL_law_206 : decode cL_law 206 = .ok (.ireturn, 1) := by decide +kernel
theorem dL_law_207 : decode cL_law 207 = .ok (.aload_n 1, 1) := by decide +kernel
theorem dL_law_208 : decode cL_law 208 = .ok (.invokevirtual 18, 3) := by decide +kernel
theorem dL_law_211 : decode cL_law 211 = .ok (.aload_n 2, 1) := by decide +kernel
theorem dL_law_212 : decode cL_law 212 = .ok (.invokevirtual 22, 3) := by decide +kernel
theorem dL_law_215 : decode cL_law 215 = .ok (.if_icmp .eq 973, 3) := by decide +kernel
theorem dL_law_218 : decode cL_law 218 = .ok (.iconst 0, 1) := by decide +kernel
theorem dL_law_219 : decode cL_law 219 = .ok (.ireturn, 1) := by decide +kernel
theorem dL_law_220 : decode cL_law 220 = .ok (.aload_n 1, 1) := by decide +kernel
theorem dL_law_221 : decode cL_law 221 = .ok (.aload_n 0, 1) := by decide +kernel
theorem dL_law_222 : decode cL_law 222 = .ok (.iload_n 3, 1) := by decide +kernel
theorem dL_law_223 : decode cL_law 223 = .ok (.iconst 1, 1) := by decide +kernel
theorem dL_law_224 : decode cL_law 224 = .ok (.iadd, 1) := by decide +kernel
theorem dL_law_225 : decode cL_law 225 = .ok (.iaload, 1) := by decide +kernel
theorem dL_law_226 : decode cL_law 226 = .ok (.aload_n 0, 1) := by decide +kernel
theorem dL_law_227 : decode cL_law 227 = .ok (.iload_n 3, 1) := by decide +kernel
theorem dL_law_228 : decode cL_law 228 = .ok (.iconst 2, 1) := by decide +kernel
theorem dL_law_229 : decode cL_law 229 = .ok (.iadd, 1) := by decide +kernel
theorem dL_law_230 : decode cL_law 230 = .ok (.iaload, 1) := by decide +kernel
theorem dL_law_231 : decode cL_law 231 = .ok (.invokevirtual 23, 3) := by decide +kernel
theorem dL_law_234 : decode cL_law 234 = .ok (.aload_n 2, 1) := by decide +kernel
theorem dL_law_235 : decode cL_law 235 = .ok (.aload_n 0, 1) := by decide +kernel
theorem dL_law_236 : decode cL_law 236 = .ok (.iload_n 3, 1) := by decide +kernel
theorem dL_law_237 : decode cL_law 237 = .ok (.iconst 1, 1) := by decide +kernel
theorem dL_law_238 : decode cL_law 238 = .ok (.iadd, 1) := by decide +kernel
theorem dL_law_239 : decode cL_law 239 = .ok (.iaload, 1) := by decide +kernel
theorem dL_law_240 : decode cL_law 240 = .ok (.aload_n 0, 1) := by decide +kernel
theorem dL_law_241 : decode cL_law 241 = .ok (.iload_n 3, 1) := by decide +kernel
theorem dL_law_242 : decode cL_law 242 = .ok (.iconst 2, 1) := by decide +kernel
theorem dL_law_243 : decode cL_law 243 = .ok (.iadd, 1) := by decide +kernel
theorem dL_law_244 : decode cL_law 244 = .ok (.iaload, 1) := by decide +kernel
theorem dL_law_245 : decode cL_law 245 = .ok (.invokevirtual 27, 3) := by decide +kernel
theorem dL_law_248 : decode cL_law 248 = .ok (.if_icmp .eq 940, 3) := by decide +kernel
theorem dL_law_251 : decode cL_law 251 = .ok (.iconst 0, 1) := by decide +kernel
theorem dL_law_252 : decode cL_law 252 = .ok (.ireturn, 1) := by decide +kernel
theorem dL_law_253 : decode cL_law 253 = .ok (.aload_n 1, 1) := by decide +kernel
theorem dL_law_254 : decode cL_law 254 = .ok (.aload_n 0, 1) := by decide +kernel
theorem dL_law_255 : decode cL_law 255 = .ok (.iload_n 3, 1) := by decide +kernel
theorem dL_law_256 : decode cL_law 256 = .ok (.iconst 1, 1) := by decide +kernel
theorem dL_law_257 : decode cL_law 257 = .ok (.iadd, 1) := by decide +kernel
theorem dL_law_258 : decode cL_law 258 = .ok (.iaload, 1) := by decide +kernel
theorem dL_law_259 : decode cL_law 259 = .ok (.aload_n 0, 1) := by decide +kernel
theorem dL_law_260 : decode cL_law 260 = .ok (.iload_n 3, 1) := by decide +kernel
theorem dL_law_261 : decode cL_law 261 = .ok (.iconst 2, 1) := by decide +kernel
theorem dL_law_262 : decode cL_law 262 = .ok (.iadd, 1) := by decide +kernel
theorem dL_law_263 : decode cL_law 263 = .ok (.iaload, 1) := by decide +kernel
theorem dL_law_264 : decode cL_law 264 = .ok (.invokevirtual 28, 3) := by decide +kernel
theorem dL_law_267 : decode cL_law 267 = .ok (.aload_n 2, 1) := by decide +kernel
theorem dL_law_268 : decode cL_law 268 = .ok (.aload_n 0, 1) := by decide +kernel
theorem dL_law_269 : decode cL_law 269 = .ok (.iload_n 3, 1) := by decide +kernel
theorem dL_law_270 : decode cL_law 270 = .ok (.iconst 1, 1) := by decide +kernel
theorem dL_law_271 : decode cL_law 271 = .ok (.iadd, 1) := by decide +kernel
theorem dL_law_272 : decode cL_law 272 = .ok (.iaload, 1) := by decide +kernel
theorem dL_law_273 : decode cL_law 273 = .ok (.aload_n 0, 1) := by decide +kernel
theorem dL_law_274 : decode cL_law 274 = .ok (.iload_n 3, 1) := by decide +kernel
theorem dL_law_275 : decode cL_law 275 = .ok (.iconst 2, 1) := by decide +kernel
theorem dL_law_276 : decode cL_law 276 = .ok (.iadd, 1) := by decide +kernel
theorem dL_law_277 : decode cL_law 277 = .ok (.iaload, 1) := by decide +kernel
theorem dL_law_278 : decode cL_law 278 = .ok (.invokevirtual 31, 3) := by decide +kernel
theorem dL_law_281 : decode cL_law 281 = .ok (.if_icmp .eq 907, 3) := by decide +kernel
theorem dL_law_284 : decode cL_law 284 = .ok (.iconst 0, 1) := by decide +kernel
theorem dL_law_285 : decode cL_law 285 = .ok (.ireturn, 1) := by decide +kernel
theorem dL_law_286 : decode cL_law 286 = .ok (.aload_n 1, 1) := by decide +kernel
theorem dL_law_287 : decode cL_law 287 = .ok (.aload_n 0, 1) := by decide +kernel
theorem dL_law_288 : decode cL_law 288 = .ok (.iload_n 3, 1) := by decide +kernel
theorem dL_law_289 : decode cL_law 289 = .ok (.iconst 1, 1) := by decide +kernel
theorem dL_law_290 : decode cL_law 290 = .ok (.iadd, 1) := by decide +kernel
theorem dL_law_291 : decode cL_law 291 = .ok (.iaload, 1) := by decide +kernel
theorem dL_law_292 : decode cL_law 292 = .ok (.aload_n 0, 1) := by decide +kernel
theorem dL_law_293 : decode cL_law 293 = .ok (.iload_n 3, 1) := by decide +kernel
theorem dL_law_294 : decode cL_law 294 = .ok (.iconst 2, 1) := by decide +kernel
theorem dL_law_295 : decode cL_law 295 = .ok (.iadd, 1) := by decide +kernel
theorem dL_law_296 : decode cL_law 296 = .ok (.iaload, 1) := by decide +kernel
theorem dL_law_297 : decode cL_law 297 = .ok (.invokevirtual 32, 3) := by decide +kernel
theorem dL_law_300 : decode cL_law 300 = .ok (.aload_n 2, 1) := by decide +kernel
theorem dL_law_301 : decode cL_law 301 = .ok (.aload_n 0, 1) := by decide +kernel
theorem dL_law_302 : decode cL_law 302 = .ok (.iload_n 3, 1) := by decide +kernel
theorem dL_law_303 : decode cL_law 303 = .ok (.iconst 1, 1) := by decide +kernel
theorem dL_law_304 : decode cL_law 304 = .ok (.iadd, 1) := by decide +kernel
theorem dL_law_305 : decode cL_law 305 = .ok (.iaload, 1) := by decide +kernel
theorem dL_law_306 : decode cL_law 306 = .ok (.aload_n 0, 1) := by decide +kernel
theorem dL_law_307 : decode cL_law 307 = .ok (.iload_n 3, 1) := by decide +kernel
theorem dL_law_308 : decode cL_law 308 = .ok (.iconst 2, 1) := by decide +kernel
theorem dL_law_309 : decode cL_law 309 = .ok (.iadd, 1) := by decide +kernel
theorem dL_law_310 : decode cL_law 310 = .ok (.iaload, 1) := by decide +kernel
theorem dL_law_311 : decode cL_law 311 = .ok (.invokevirtual 35, 3) := by decide +kernel
theorem dL_law_314 : decode cL_law 314 = .ok (.if_icmp .eq 874, 3) := by decide +kernel
theorem dL_law_317 : decode cL_law 317 = .ok (.iconst 0, 1) := by decide +kernel
theorem dL_law_318 : decode cL_law 318 = .ok (.ireturn, 1) := by decide +kernel
theorem dL_law_319 : decode cL_law 319 = .ok (.aload_n 1, 1) := by decide +kernel
theorem dL_law_320 : decode cL_law 320 = .ok (.aload_n 0, 1) := by decide +kernel
theorem dL_law_321 : decode cL_law 321 = .ok (.iload_n 3, 1) := by decide +kernel
theorem dL_law_322 : decode cL_law 322 = .ok (.iconst 1, 1) := by decide +kernel
theorem dL_law_323 : decode cL_law 323 = .ok (.iadd, 1) := by decide +kernel
theorem dL_law_324 : decode cL_law 324 = .ok (.iaload, 1) := by decide +kernel
theorem dL_law_325 : decode cL_law 325 = .ok (.aload_n 0, 1) := by decide +kernel
theorem dL_law_326 : decode cL_law 326 = .ok (.iload_n 3, 1) := by decide +kernel
theorem dL_law_327 : decode cL_law 327 = .ok (.iconst 2, 1) := by decide +kernel
theorem dL_law_328 : decode cL_law 328 = .ok (.iadd, 1) := by decide +kernel
theorem dL_law_329 : decode cL_law 329 = .ok (.iaload, 1) := by decide +kernel
theorem dL_law_330 : decode cL_law 330 = .ok (.aload_n 0, 1) := by decide +kernel
theorem dL_law_331 : decode cL_law 331 = .ok (.iload_n 3, 1) := by decide +kernel
theorem dL_law_332 : decode cL_law 332 = .ok (.iconst 3, 1) := by decide +kernel
theorem dL_law_333 : decode cL_law 333 = .ok (.iadd, 1) := by decide +kernel
theorem dL_law_334 : decode cL_law 334 = .ok (.iaload, 1) := by decide +kernel
theorem dL_law_335 : decode cL_law 335 = .ok (.invokevirtual 36, 3) := by decide +kernel
theorem dL_law_338 : decode cL_law 338 = .ok (.aload_n 2, 1) := by decide +kernel
theorem dL_law_339 : decode cL_law 339 = .ok (.aload_n 0, 1) := by decide +kernel
theorem dL_law_340 : decode cL_law 340 = .ok (.iload_n 3, 1) := by decide +kernel
theorem dL_law_341 : decode cL_law 341 = .ok (.iconst 1, 1) := by decide +kernel
theorem dL_law_342 : decode cL_law 342 = .ok (.iadd, 1) := by decide +kernel
theorem dL_law_343 : decode cL_law 343 = .ok (.iaload, 1) := by decide +kernel
theorem dL_law_344 : decode cL_law 344 = .ok (.aload_n 0, 1) := by decide +kernel
theorem dL_law_345 : decode cL_law 345 = .ok (.iload_n 3, 1) := by decide +kernel
theorem dL_law_346 : decode cL_law 346 = .ok (.iconst 2, 1) := by decide +kernel
theorem dL_law_347 : decode cL_law 347 = .ok (.iadd, 1) := by decide +kernel
theorem dL_law_348 : decode cL_law 348 = .ok (.iaload, 1) := by decide +kernel
theorem dL_law_349 : decode cL_law 349 = .ok (.aload_n 0, 1) := by decide +kernel
theorem dL_law_350 : decode cL_law 350 = .ok (.iload_n 3, 1) := by decide +kernel
theorem dL_law_351 : decode cL_law 351 = .ok (.iconst 3, 1) := by decide +kernel
theorem dL_law_352 : decode cL_law 352 = .ok (.iadd, 1) := by decide +kernel
theorem dL_law_353 : decode cL_law 353 = .ok (.iaload, 1) := by decide +kernel
theorem dL_law_354 : decode cL_law 354 = .ok (.invokevirtual 40, 3) := by decide +kernel
theorem dL_law_357 : decode cL_law 357 = .ok (.if_icmp .eq 831, 3) := by decide +kernel
theorem dL_law_360 : decode cL_law 360 = .ok (.iconst 0, 1) := by decide +kernel
theorem dL_law_361 : decode cL_law 361 = .ok (.ireturn, 1) := by decide +kernel
theorem dL_law_362 : decode cL_law 362 = .ok (.aload_n 1, 1) := by decide +kernel
theorem dL_law_363 : decode cL_law 363 = .ok (.aload_n 0, 1) := by decide +kernel
theorem dL_law_364 : decode cL_law 364 = .ok (.iload_n 3, 1) := by decide +kernel
theorem dL_law_365 : decode cL_law 365 = .ok (.iconst 1, 1) := by decide +kernel
theorem dL_law_366 : decode cL_law 366 = .ok (.iadd, 1) := by decide +kernel
theorem dL_law_367 : decode cL_law 367 = .ok (.iaload, 1) := by decide +kernel
theorem dL_law_368 : decode cL_law 368 = .ok (.aload_n 0, 1) := by decide +kernel
theorem dL_law_369 : decode cL_law 369 = .ok (.iload_n 3, 1) := by decide +kernel
theorem dL_law_370 : decode cL_law 370 = .ok (.iconst 2, 1) := by decide +kernel
theorem dL_law_371 : decode cL_law 371 = .ok (.iadd, 1) := by decide +kernel
theorem dL_law_372 : decode cL_law 372 = .ok (.iaload, 1) := by decide +kernel
theorem dL_law_373 : decode cL_law 373 = .ok (.invokevirtual 41, 3) := by decide +kernel
theorem dL_law_376 : decode cL_law 376 = .ok (.aload_n 2, 1) := by decide +kernel
theorem dL_law_377 : decode cL_law 377 = .ok (.aload_n 0, 1) := by decide +kernel
theorem dL_law_378 : decode cL_law 378 = .ok (.iload_n 3, 1) := by decide +kernel
theorem dL_law_379 : decode cL_law 379 = .ok (.iconst 1, 1) := by decide +kernel
theorem dL_law_380 : decode cL_law 380 = .ok (.iadd, 1) := by decide +kernel
theorem dL_law_381 : decode cL_law 381 = .ok (.iaload, 1) := by decide +kernel
theorem dL_law_382 : decode cL_law 382 = .ok (.aload_n 0, 1) := by decide +kernel
theorem dL_law_383 : decode cL_law 383 = .ok (.iload_n 3, 1) := by decide +kernel
theorem dL_law_384 : decode cL_law 384 = .ok (.iconst 2, 1) := by decide +kernel
theorem dL_law_385 : decode cL_law 385 = .ok (.iadd, 1) := by decide +kernel
theorem dL_law_386 : decode cL_law 386 = .ok (.iaload, 1) := by decide +kernel
theorem dL_law_387 : decode cL_law 387 = .ok (.invokevirtual 44, 3) := by decide +kernel
theorem dL_law_390 : decode cL_law 390 = .ok (.if_icmp .eq 798, 3) := by decide +kernel
theorem dL_law_393 : decode cL_law 393 = .ok (.iconst 0, 1) := by decide +kernel
theorem dL_law_394 : decode cL_law 394 = .ok (.ireturn, 1) := by decide +kernel
theorem dL_law_395 : decode cL_law 395 = .ok (.aload_n 1, 1) := by decide +kernel
theorem dL_law_396 : decode cL_law 396 = .ok (.aload_n 0, 1) := by decide +kernel
theorem dL_law_397 : decode cL_law 397 = .ok (.iload_n 3, 1) := by decide +kernel
theorem dL_law_398 : decode cL_law 398 = .ok (.iconst 1, 1) := by decide +kernel
theorem dL_law_399 : decode cL_law 399 = .ok (.iadd, 1) := by decide +kernel
theorem dL_law_400 : decode cL_law 400 = .ok (.iaload, 1) := by decide +kernel
theorem dL_law_401 : decode cL_law 401 = .ok (.aload_n 0, 1) := by decide +kernel
theorem dL_law_402 : decode cL_law 402 = .ok (.iload_n 3, 1) := by decide +kernel
theorem dL_law_403 : decode cL_law 403 = .ok (.iconst 2, 1) := by decide +kernel
theorem dL_law_404 : decode cL_law 404 = .ok (.iadd, 1) := by decide +kernel
theorem dL_law_405 : decode cL_law 405 = .ok (.iaload, 1) := by decide +kernel
theorem dL_law_406 : decode cL_law 406 = .ok (.aload_n 0, 1) := by decide +kernel
theorem dL_law_407 : decode cL_law 407 = .ok (.iload_n 3, 1) := by decide +kernel
theorem dL_law_408 : decode cL_law 408 = .ok (.iconst 3, 1) := by decide +kernel
theorem dL_law_409 : decode cL_law 409 = .ok (.iadd, 1) := by decide +kernel
theorem dL_law_410 : decode cL_law 410 = .ok (.iaload, 1) := by decide +kernel
theorem dL_law_411 : decode cL_law 411 = .ok (.invokevirtual 45, 3) := by decide +kernel
theorem dL_law_414 : decode cL_law 414 = .ok (.aload_n 2, 1) := by decide +kernel
theorem dL_law_415 : decode cL_law 415 = .ok (.aload_n 0, 1) := by decide +kernel
theorem dL_law_416 : decode cL_law 416 = .ok (.iload_n 3, 1) := by decide +kernel
theorem dL_law_417 : decode cL_law 417 = .ok (.iconst 1, 1) := by decide +kernel
theorem dL_law_418 : decode cL_law 418 = .ok (.iadd, 1) := by decide +kernel
theorem dL_law_419 : decode cL_law 419 = .ok (.iaload, 1) := by decide +kernel
theorem dL_law_420 : decode cL_law 420 = .ok (.aload_n 0, 1) := by decide +kernel
theorem dL_law_421 : decode cL_law 421 = .ok (.iload_n 3, 1) := by decide +kernel
theorem dL_law_422 : decode cL_law 422 = .ok (.iconst 2, 1) := by decide +kernel
theorem dL_law_423 : decode cL_law 423 = .ok (.iadd, 1) := by decide +kernel
theorem dL_law_424 : decode cL_law 424 = .ok (.iaload, 1) := by decide +kernel
theorem dL_law_425 : decode cL_law 425 = .ok (.aload_n 0, 1) := by decide +kernel
theorem dL_law_426 : decode cL_law 426 = .ok (.iload_n 3, 1) := by decide +kernel
theorem dL_law_427 : decode cL_law 427 = .ok (.iconst 3, 1) := by decide +kernel
theorem dL_law_428 : decode cL_law 428 = .ok (.iadd, 1) := by decide +kernel
theorem dL_law_429 : decode cL_law 429 = .ok (.iaload, 1) := by decide +kernel
theorem dL_law_430 : decode cL_law 430 = .ok (.invokevirtual 48, 3) := by decide +kernel
theorem dL_law_433 : decode cL_law 433 = .ok (.if_icmp .eq 755, 3) := by decide +kernel
theorem dL_law_436 : decode cL_law 436 = .ok (.iconst 0, 1) := by decide +kernel
theorem dL_law_437 : decode cL_law 437 = .ok (.ireturn, 1) := by decide +kernel
theorem dL_law_438 : decode cL_law 438 = .ok (.aload_n 1, 1) := by decide +kernel
theorem dL_law_439 : decode cL_law 439 = .ok (.aload_n 0, 1) := by decide +kernel
theorem dL_law_440 : decode cL_law 440 = .ok (.iload_n 3, 1) := by decide +kernel
theorem dL_law_441 : decode cL_law 441 = .ok (.iconst 1, 1) := by decide +kernel
theorem dL_law_442 : decode cL_law 442 = .ok (.iadd, 1) := by decide +kernel
theorem dL_law_443 : decode cL_law 443 = .ok (.iaload, 1) := by decide +kernel
theorem dL_law_444 : decode cL_law 444 = .ok (.invokevirtual 49, 3) := by decide +kernel
theorem dL_law_447 : decode cL_law 447 = .ok (.aload_n 2, 1) := by decide +kernel
theorem dL_law_448 : decode cL_law 448 = .ok (.aload_n 0, 1) := by decide +kernel
theorem dL_law_449 : decode cL_law 449 = .ok (.iload_n 3, 1) := by decide +kernel
theorem dL_law_450 : decode cL_law 450 = .ok (.iconst 1, 1) := by decide +kernel
theorem dL_law_451 : decode cL_law 451 = .ok (.iadd, 1) := by decide +kernel
theorem dL_law_452 : decode cL_law 452 = .ok (.iaload, 1) := by decide +kernel
theorem dL_law_453 : decode cL_law 453 = .ok (.invokevirtual 52, 3) := by decide +kernel
theorem dL_law_456 : decode cL_law 456 = .ok (.if_icmp .eq 732, 3) := by decide +kernel
theorem dL_law_459 : decode cL_law 459 = .ok (.iconst 0, 1) := by decide +kernel
theorem dL_law_460 : decode cL_law 460 = .ok (.ireturn, 1) := by decide +kernel
theorem dL_law_461 : decode cL_law 461 = .ok (.aload_n 1, 1) := by decide +kernel
theorem dL_law_462 : decode cL_law 462 = .ok (.aload_n 0, 1) := by decide +kernel
theorem dL_law_463 : decode cL_law 463 = .ok (.iload_n 3, 1) := by decide +kernel
theorem dL_law_464 : decode cL_law 464 = .ok (.iconst 1, 1) := by decide +kernel
theorem dL_law_465 : decode cL_law 465 = .ok (.iadd, 1) := by decide +kernel
theorem dL_law_466 : decode cL_law 466 = .ok (.iaload, 1) := by decide +kernel
theorem dL_law_467 : decode cL_law 467 = .ok (.aload_n 0, 1) := by decide +kernel
theorem dL_law_468 : decode cL_law 468 = .ok (.iload_n 3, 1) := by decide +kernel
theorem dL_law_469 : decode cL_law 469 = .ok (.iconst 2, 1) := by decide +kernel
theorem dL_law_470 : decode cL_law 470 = .ok (.iadd, 1) := by decide +kernel
theorem dL_law_471 : decode cL_law 471 = .ok (.iaload, 1) := by decide +kernel
theorem dL_law_472 : decode cL_law 472 = .ok (.aload_n 0, 1) := by decide +kernel
theorem dL_law_473 : decode cL_law 473 = .ok (.iload_n 3, 1) := by decide +kernel
theorem dL_law_474 : decode cL_law 474 = .ok (.iconst 3, 1) := by decide +kernel
theorem dL_law_475 : decode cL_law 475 = .ok (.iadd, 1) := by decide +kernel
theorem dL_law_476 : decode cL_law 476 = .ok (.iaload, 1) := by decide +kernel
theorem dL_law_477 : decode cL_law 477 = .ok (.invokevirtual 53, 3) := by decide +kernel
theorem dL_law_480 : decode cL_law 480 = .ok (.aload_n 2, 1) := by decide +kernel
theorem dL_law_481 : decode cL_law 481 = .ok (.aload_n 0, 1) := by decide +kernel
theorem dL_law_482 : decode cL_law 482 = .ok (.iload_n 3, 1) := by decide +kernel
theorem dL_law_483 : decode cL_law 483 = .ok (.iconst 1, 1) := by decide +kernel
theorem dL_law_484 : decode cL_law 484 = .ok (.iadd, 1) := by decide +kernel
theorem dL_law_485 : decode cL_law 485 = .ok (.iaload, 1) := by decide +kernel
theorem dL_law_486 : decode cL_law 486 = .ok (.aload_n 0, 1) := by decide +kernel
theorem dL_law_487 : decode cL_law 487 = .ok (.iload_n 3, 1) := by decide +kernel
theorem dL_law_488 : decode cL_law 488 = .ok (.iconst 2, 1) := by decide +kernel
theorem dL_law_489 : decode cL_law 489 = .ok (.iadd, 1) := by decide +kernel
theorem dL_law_490 : decode cL_law 490 = .ok (.iaload, 1) := by decide +kernel
theorem dL_law_491 : decode cL_law 491 = .ok (.aload_n 0, 1) := by decide +kernel
theorem dL_law_492 : decode cL_law 492 = .ok (.iload_n 3, 1) := by decide +kernel
theorem dL_law_493 : decode cL_law 493 = .ok (.iconst 3, 1) := by decide +kernel
theorem dL_law_494 : decode cL_law 494 = .ok (.iadd, 1) := by decide +kernel
theorem dL_law_495 : decode cL_law 495 = .ok (.iaload, 1) := by decide +kernel
theorem dL_law_496 : decode cL_law 496 = .ok (.invokevirtual 56, 3) := by decide +kernel
theorem dL_law_499 : decode cL_law 499 = .ok (.if_icmp .eq 689, 3) := by decide +kernel
theorem dL_law_502 : decode cL_law 502 = .ok (.iconst 0, 1) := by decide +kernel
theorem dL_law_503 : decode cL_law 503 = .ok (.ireturn, 1) := by decide +kernel
theorem dL_law_504 : decode cL_law 504 = .ok (.aload_n 1, 1) := by decide +kernel
theorem dL_law_505 : decode cL_law 505 = .ok (.aload_n 0, 1) := by decide +kernel
theorem dL_law_506 : decode cL_law 506 = .ok (.iload_n 3, 1) := by decide +kernel
theorem dL_law_507 : decode cL_law 507 = .ok (.iconst 1, 1) := by decide +kernel
theorem dL_law_508 : decode cL_law 508 = .ok (.iadd, 1) := by decide +kernel
theorem dL_law_509 : decode cL_law 509 = .ok (.iaload, 1) := by decide +kernel
theorem dL_law_510 : decode cL_law 510 = .ok (.aload_n 0, 1) := by decide +kernel
theorem dL_law_511 : decode cL_law 511 = .ok (.iload_n 3, 1) := by decide +kernel
theorem dL_law_512 : decode cL_law 512 = .ok (.iconst 2, 1) := by decide +kernel
theorem dL_law_513 : decode cL_law 513 = .ok (.iadd, 1) := by decide +kernel
theorem dL_law_514 : decode cL_law 514 = .ok (.iaload, 1) := by decide +kernel
theorem dL_law_515 : decode cL_law 515 = .ok (.invokevirtual 57, 3) := by decide +kernel
theorem dL_law_518 : decode cL_law 518 = .ok (.aload_n 2, 1) := by decide +kernel
theorem dL_law_519 : decode cL_law 519 = .ok (.aload_n 0, 1) := by decide +kernel
theorem dL_law_520 : decode cL_law 520 = .ok (.iload_n 3, 1) := by decide +kernel
theorem dL_law_521 : decode cL_law 521 = .ok (.iconst 1, 1) := by decide +kernel
theorem dL_law_522 : decode cL_law 522 = .ok (.iadd, 1) := by decide +kernel
theorem dL_law_523 : decode cL_law 523 = .ok (.iaload, 1) := by decide +kernel
theorem dL_law_524 : decode cL_law 524 = .ok (.aload_n 0, 1) := by decide +kernel
theorem dL_law_525 : decode cL_law 525 = .ok (.iload_n 3, 1) := by decide +kernel
theorem dL_law_526 : decode cL_law 526 = .ok (.iconst 2, 1) := by decide +kernel
theorem dL_law_527 : decode cL_law 527 = .ok (.iadd, 1) := by decide +kernel
theorem dL_law_528 : decode cL_law 528 = .ok (.iaload, 1) := by decide +kernel
theorem dL_law_529 : decode cL_law 529 = .ok (.invokevirtual 60, 3) := by decide +kernel
theorem dL_law_532 : decode cL_law 532 = .ok (.if_icmp .eq 656, 3) := by decide +kernel
theorem dL_law_535 : decode cL_law 535 = .ok (.iconst 0, 1) := by decide +kernel
theorem dL_law_536 : decode cL_law 536 = .ok (.ireturn, 1) := by decide +kernel
theorem dL_law_537 : decode cL_law 537 = .ok (.aload_n 1, 1) := by decide +kernel
theorem dL_law_538 : decode cL_law 538 = .ok (.aload_n 0, 1) := by decide +kernel
theorem dL_law_539 : decode cL_law 539 = .ok (.iload_n 3, 1) := by decide +kernel
theorem dL_law_540 : decode cL_law 540 = .ok (.iconst 1, 1) := by decide +kernel
theorem dL_law_541 : decode cL_law 541 = .ok (.iadd, 1) := by decide +kernel
theorem dL_law_542 : decode cL_law 542 = .ok (.iaload, 1) := by decide +kernel
theorem dL_law_543 : decode cL_law 543 = .ok (.invokevirtual 61, 3) := by decide +kernel
theorem dL_law_546 : decode cL_law 546 = .ok (.aload_n 2, 1) := by decide +kernel
theorem dL_law_547 : decode cL_law 547 = .ok (.aload_n 0, 1) := by decide +kernel
theorem dL_law_548 : decode cL_law 548 = .ok (.iload_n 3, 1) := by decide +kernel
theorem dL_law_549 : decode cL_law 549 = .ok (.iconst 1, 1) := by decide +kernel
theorem dL_law_550 : decode cL_law 550 = .ok (.iadd, 1) := by decide +kernel
theorem dL_law_551 : decode cL_law 551 = .ok (.iaload, 1) := by decide +kernel
theorem dL_law_552 : decode cL_law 552 = .ok (.invokevirtual 64, 3) := by decide +kernel
theorem dL_law_555 : decode cL_law 555 = .ok (.if_icmp .eq 633, 3) := by decide +kernel
theorem dL_law_558 : decode cL_law 558 = .ok (.iconst 0, 1) := by decide +kernel
theorem dL_law_559 : decode cL_law 559 = .ok (.ireturn, 1) := by decide +kernel
theorem dL_law_560 : decode cL_law 560 = .ok (.aload_n 1, 1) := by decide +kernel
theorem dL_law_561 : decode cL_law 561 = .ok (.invokevirtual 65, 3) := by decide +kernel
theorem dL_law_564 : decode cL_law 564 = .ok (.aload_n 2, 1) := by decide +kernel
theorem dL_law_565 : decode cL_law 565 = .ok (.invokevirtual 68, 3) := by decide +kernel
theorem dL_law_568 : decode cL_law 568 = .ok (.if_icmp .eq 620, 3) := by decide +kernel
theorem dL_law_571 : decode cL_law 571 = .ok (.iconst 0, 1) := by decide +kernel
theorem dL_law_572 : decode cL_law 572 = .ok (.ireturn, 1) := by decide +kernel
theorem dL_law_573 : decode cL_law 573 = .ok (.aload_n 1, 1) := by decide +kernel
theorem dL_law_574 : decode cL_law 574 = .ok (.aload_n 0, 1) := by decide +kernel
theorem dL_law_575 : decode cL_law 575 = .ok (.iload_n 3, 1) := by decide +kernel
theorem dL_law_576 : decode cL_law 576 = .ok (.iconst 1, 1) := by decide +kernel
theorem dL_law_577 : decode cL_law 577 = .ok (.iadd, 1) := by decide +kernel
theorem dL_law_578 : decode cL_law 578 = .ok (.iaload, 1) := by decide +kernel
theorem dL_law_579 : decode cL_law 579 = .ok (.invokevirtual 69, 3) := by decide +kernel
theorem dL_law_582 : decode cL_law 582 = .ok (.aload_n 2, 1) := by decide +kernel
theorem dL_law_583 : decode cL_law 583 = .ok (.aload_n 0, 1) := by decide +kernel
theorem dL_law_584 : decode cL_law 584 = .ok (.iload_n 3, 1) := by decide +kernel
theorem dL_law_585 : decode cL_law 585 = .ok (.iconst 1, 1) := by decide +kernel
theorem dL_law_586 : decode cL_law 586 = .ok (.iadd, 1) := by decide +kernel
theorem dL_law_587 : decode cL_law 587 = .ok (.iaload, 1) := by decide +kernel
theorem dL_law_588 : decode cL_law 588 = .ok (.invokevirtual 72, 3) := by decide +kernel
theorem dL_law_591 : decode cL_law 591 = .ok (.if_icmp .eq 597, 3) := by decide +kernel
theorem dL_law_594 : decode cL_law 594 = .ok (.iconst 0, 1) := by decide +kernel
theorem dL_law_595 : decode cL_law 595 = .ok (.ireturn, 1) := by decide +kernel
theorem dL_law_596 : decode cL_law 596 = .ok (.aload_n 1, 1) := by decide +kernel
theorem dL_law_597 : decode cL_law 597 = .ok (.aload_n 0, 1) := by decide +kernel
theorem dL_law_598 : decode cL_law 598 = .ok (.iload_n 3, 1) := by decide +kernel
theorem dL_law_599 : decode cL_law 599 = .ok (.iconst 1, 1) := by decide +kernel
theorem dL_law_600 : decode cL_law 600 = .ok (.iadd, 1) := by decide +kernel
theorem dL_law_601 : decode cL_law 601 = .ok (.iaload, 1) := by decide +kernel
theorem dL_law_602 : decode cL_law 602 = .ok (.aload_n 0, 1) := by decide +kernel
theorem dL_law_603 : decode cL_law 603 = .ok (.iload_n 3, 1) := by decide +kernel
theorem dL_law_604 : decode cL_law 604 = .ok (.iconst 2, 1) := by decide +kernel
theorem dL_law_605 : decode cL_law 605 = .ok (.iadd, 1) := by decide +kernel
theorem dL_law_606 : decode cL_law 606 = .ok (.iaload, 1) := by decide +kernel
theorem dL_law_607 : decode cL_law 607 = .ok (.invokevirtual 73, 3) := by decide +kernel
theorem dL_law_610 : decode cL_law 610 = .ok (.aload_n 2, 1) := by decide +kernel
theorem dL_law_611 : decode cL_law 611 = .ok (.aload_n 0, 1) := by decide +kernel
theorem dL_law_612 : decode cL_law 612 = .ok (.iload_n 3, 1) := by decide +kernel
theorem dL_law_613 : decode cL_law 613 = .ok (.iconst 1, 1) := by decide +kernel
theorem dL_law_614 : decode cL_law 614 = .ok (.iadd, 1) := by decide +kernel
theorem dL_law_615 : decode cL_law 615 = .ok (.iaload, 1) := by decide +kernel
theorem dL_law_616 : decode cL_law 616 = .ok (.aload_n 0, 1) := by decide +kernel
theorem dL_law_617 : decode cL_law 617 = .ok (.iload_n 3, 1) := by decide +kernel
theorem dL_law_618 : decode cL_law 618 = .ok (.iconst 2, 1) := by decide +kernel
theorem dL_law_619 : decode cL_law 619 = .ok (.iadd, 1) := by decide +kernel
theorem dL_law_620 : decode cL_law 620 = .ok (.iaload, 1) := by decide +kernel
theorem dL_law_621 : decode cL_law 621 = .ok (.invokevirtual 76, 3) := by decide +kernel
theorem dL_law_624 : decode cL_law 624 = .ok (.if_icmp .eq 564, 3) := by decide +kernel
theorem dL_law_627 : decode cL_law 627 = .ok (.iconst 0, 1) := by decide +kernel
theorem dL_law_628 : decode cL_law 628 = .ok (.ireturn, 1) := by decide +kernel
theorem dL_law_629 : decode cL_law 629 = .ok (.aload_n 1, 1) := by decide +kernel
theorem dL_law_630 : decode cL_law 630 = .ok (.aload_n 0, 1) := by decide +kernel
theorem dL_law_631 : decode cL_law 631 = .ok (.iload_n 3, 1) := by decide +kernel
theorem dL_law_632 : decode cL_law 632 = .ok (.iconst 1, 1) := by decide +kernel
theorem dL_law_633 : decode cL_law 633 = .ok (.iadd, 1) := by decide +kernel
theorem dL_law_634 : decode cL_law 634 = .ok (.iaload, 1) := by decide +kernel
theorem dL_law_635 : decode cL_law 635 = .ok (.invokevirtual 77, 3) := by decide +kernel
theorem dL_law_638 : decode cL_law 638 = .ok (.aload_n 2, 1) := by decide +kernel
theorem dL_law_639 : decode cL_law 639 = .ok (.aload_n 0, 1) := by decide +kernel
theorem dL_law_640 : decode cL_law 640 = .ok (.iload_n 3, 1) := by decide +kernel
theorem dL_law_641 : decode cL_law 641 = .ok (.iconst 1, 1) := by decide +kernel
theorem dL_law_642 : decode cL_law 642 = .ok (.iadd, 1) := by decide +kernel
theorem dL_law_643 : decode cL_law 643 = .ok (.iaload, 1) := by decide +kernel
theorem dL_law_644 : decode cL_law 644 = .ok (.invokevirtual 80, 3) := by decide +kernel
theorem dL_law_647 : decode cL_law 647 = .ok (.if_icmp .eq 541, 3) := by decide +kernel
theorem dL_law_650 : decode cL_law 650 = .ok (.iconst 0, 1) := by decide +kernel
theorem dL_law_651 : decode cL_law 651 = .ok (.ireturn, 1) := by decide +kernel
theorem dL_law_652 : decode cL_law 652 = .ok (.aload_n 1, 1) := by decide +kernel
theorem dL_law_653 : decode cL_law 653 = .ok (.aload_n 0, 1) := by decide +kernel
theorem dL_law_654 : decode cL_law 654 = .ok (.iload_n 3, 1) := by decide +kernel
theorem dL_law_655 : decode cL_law 655 = .ok (.iconst 1, 1) := by decide +kernel
theorem dL_law_656 : decode cL_law 656 = .ok (.iadd, 1) := by decide +kernel
theorem dL_law_657 : decode cL_law 657 = .ok (.iaload, 1) := by decide +kernel
theorem dL_law_658 : decode cL_law 658 = .ok (.invokevirtual 81, 3) := by decide +kernel
theorem dL_law_661 : decode cL_law 661 = .ok (.aload_n 2, 1) := by decide +kernel
theorem dL_law_662 : decode cL_law 662 = .ok (.aload_n 0, 1) := by decide +kernel
theorem dL_law_663 : decode cL_law 663 = .ok (.iload_n 3, 1) := by decide +kernel
theorem dL_law_664 : decode cL_law 664 = .ok (.iconst 1, 1) := by decide +kernel
theorem dL_law_665 : decode cL_law 665 = .ok (.iadd, 1) := by decide +kernel
theorem dL_law_666 : decode cL_law 666 = .ok (.iaload, 1) := by decide +kernel
theorem dL_law_667 : decode cL_law 667 = .ok (.invokevirtual 84, 3) := by decide +kernel
theorem dL_law_670 : decode cL_law 670 = .ok (.if_icmp .eq 518, 3) := by decide +kernel
theorem dL_law_673 : decode cL_law 673 = .ok (.iconst 0, 1) := by decide +kernel
theorem dL_law_674 : decode cL_law 674 = .ok (.ireturn, 1) := by decide +kernel
theorem dL_law_675 : decode cL_law 675 = .ok (.aload_n 1, 1) := by decide +kernel
theorem dL_law_676 : decode cL_law 676 = .ok (.aload_n 0, 1) := by decide +kernel
theorem dL_law_677 : decode cL_law 677 = .ok (.iload_n 3, 1) := by decide +kernel
theorem dL_law_678 : decode cL_law 678 = .ok (.iconst 1, 1) := by decide +kernel
theorem dL_law_679 : decode cL_law 679 = .ok (.iadd, 1) := by decide +kernel
theorem dL_law_680 : decode cL_law 680 = .ok (.iaload, 1) := by decide +kernel
theorem dL_law_681 : decode cL_law 681 = .ok (.aload_n 0, 1) := by decide +kernel
theorem dL_law_682 : decode cL_law 682 = .ok (.iload_n 3, 1) := by decide +kernel
theorem dL_law_683 : decode cL_law 683 = .ok (.iconst 2, 1) := by decide +kernel
theorem dL_law_684 : decode cL_law 684 = .ok (.iadd, 1) := by decide +kernel
theorem dL_law_685 : decode cL_law 685 = .ok (.iaload, 1) := by decide +kernel
theorem dL_law_686 : decode cL_law 686 = .ok (.aload_n 0, 1) := by decide +kernel
theorem dL_law_687 : decode cL_law 687 = .ok (.iload_n 3, 1) := by decide +kernel
theorem dL_law_688 : decode cL_law 688 = .ok (.iconst 3, 1) := by decide +kernel
theorem dL_law_689 : decode cL_law 689 = .ok (.iadd, 1) := by decide +kernel
theorem dL_law_690 : decode cL_law 690 = .ok (.iaload, 1) := by decide +kernel
theorem dL_law_691 : decode cL_law 691 = .ok (.invokevirtual 85, 3) := by decide +kernel
theorem dL_law_694 : decode cL_law 694 = .ok (.aload_n 2, 1) := by decide +kernel
theorem dL_law_695 : decode cL_law 695 = .ok (.aload_n 0, 1) := by decide +kernel
theorem dL_law_696 : decode cL_law 696 = .ok (.iload_n 3, 1) := by decide +kernel
theorem dL_law_697 : decode cL_law 697 = .ok (.iconst 1, 1) := by decide +kernel
theorem dL_law_698 : decode cL_law 698 = .ok (.iadd, 1) := by decide +kernel
theorem dL_law_699 : decode cL_law 699 = .ok (.iaload, 1) := by decide +kernel
theorem dL_law_700 : decode cL_law 700 = .ok (.aload_n 0, 1) := by decide +kernel
theorem dL_law_701 : decode cL_law 701 = .ok (.iload_n 3, 1) := by decide +kernel
theorem dL_law_702 : decode cL_law 702 = .ok (.iconst 2, 1) := by decide +kernel
theorem dL_law_703 : decode cL_law 703 = .ok (.iadd, 1) := by decide +kernel
theorem dL_law_704 : decode cL_law 704 = .ok (.iaload, 1) := by decide +kernel
theorem dL_law_705 : decode cL_law 705 = .ok (.aload_n 0, 1) := by decide +kernel
theorem dL_law_706 : decode cL_law 706 = .ok (.iload_n 3, 1) := by decide +kernel
theorem dL_law_707 : decode cL_law 707 = .ok (.iconst 3, 1) := by decide +kernel
theorem dL_law_708 : decode cL_law 708 = .ok (.iadd, 1) := by decide +kernel
theorem dL_law_709 : decode cL_law 709 = .ok (.iaload, 1) := by decide +kernel
theorem dL_law_710 : decode cL_law 710 = .ok (.invokevirtual 88, 3) := by decide +kernel
theorem dL_law_713 : decode cL_law 713 = .ok (.if_icmp .eq 475, 3) := by decide +kernel
theorem dL_law_716 : decode cL_law 716 = .ok (.iconst 0, 1) := by decide +kernel
theorem dL_law_717 : decode cL_law 717 = .ok (.ireturn, 1) := by decide +kernel
theorem dL_law_718 : decode cL_law 718 = .ok (.aload_n 1, 1) := by decide +kernel
theorem dL_law_719 : decode cL_law 719 = .ok (.aload_n 0, 1) := by decide +kernel
theorem dL_law_720 : decode cL_law 720 = .ok (.iload_n 3, 1) := by decide +kernel
theorem dL_law_721 : decode cL_law 721 = .ok (.iconst 1, 1) := by decide +kernel
theorem dL_law_722 : decode cL_law 722 = .ok (.iadd, 1) := by decide +kernel
theorem dL_law_723 : decode cL_law 723 = .ok (.iaload, 1) := by decide +kernel
theorem dL_law_724 : decode cL_law 724 = .ok (.aload_n 0, 1) := by decide +kernel
theorem dL_law_725 : decode cL_law 725 = .ok (.iload_n 3, 1) := by decide +kernel
theorem dL_law_726 : decode cL_law 726 = .ok (.iconst 2, 1) := by decide +kernel
theorem dL_law_727 : decode cL_law 727 = .ok (.iadd, 1) := by decide +kernel
theorem dL_law_728 : decode cL_law 728 = .ok (.iaload, 1) := by decide +kernel
theorem dL_law_729 : decode cL_law 729 = .ok (.aload_n 0, 1) := by decide +kernel
theorem dL_law_730 : decode cL_law 730 = .ok (.iload_n 3, 1) := by decide +kernel
theorem dL_law_731 : decode cL_law 731 = .ok (.iconst 3, 1) := by decide +kernel
theorem dL_law_732 : decode cL_law 732 = .ok (.iadd, 1) := by decide +kernel
theorem dL_law_733 : decode cL_law 733 = .ok (.iaload, 1) := by decide +kernel
theorem dL_law_734 : decode cL_law 734 = .ok (.invokevirtual 89, 3) := by decide +kernel
theorem dL_law_737 : decode cL_law 737 = .ok (.aload_n 2, 1) := by decide +kernel
theorem dL_law_738 : decode cL_law 738 = .ok (.aload_n 0, 1) := by decide +kernel
theorem dL_law_739 : decode cL_law 739 = .ok (.iload_n 3, 1) := by decide +kernel
theorem dL_law_740 : decode cL_law 740 = .ok (.iconst 1, 1) := by decide +kernel
theorem dL_law_741 : decode cL_law 741 = .ok (.iadd, 1) := by decide +kernel
theorem dL_law_742 : decode cL_law 742 = .ok (.iaload, 1) := by decide +kernel
theorem dL_law_743 : decode cL_law 743 = .ok (.aload_n 0, 1) := by decide +kernel
theorem dL_law_744 : decode cL_law 744 = .ok (.iload_n 3, 1) := by decide +kernel
theorem dL_law_745 : decode cL_law 745 = .ok (.iconst 2, 1) := by decide +kernel
theorem dL_law_746 : decode cL_law 746 = .ok (.iadd, 1) := by decide +kernel
theorem dL_law_747 : decode cL_law 747 = .ok (.iaload, 1) := by decide +kernel
theorem dL_law_748 : decode cL_law 748 = .ok (.aload_n 0, 1) := by decide +kernel
theorem dL_law_749 : decode cL_law 749 = .ok (.iload_n 3, 1) := by decide +kernel
theorem dL_law_750 : decode cL_law 750 = .ok (.iconst 3, 1) := by decide +kernel
theorem dL_law_751 : decode cL_law 751 = .ok (.iadd, 1) := by decide +kernel
theorem dL_law_752 : decode cL_law 752 = .ok (.iaload, 1) := by decide +kernel
theorem dL_law_753 : decode cL_law 753 = .ok (.invokevirtual 92, 3) := by decide +kernel
theorem dL_law_756 : decode cL_law 756 = .ok (.if_icmp .eq 432, 3) := by decide +kernel
theorem dL_law_759 : decode cL_law 759 = .ok (.iconst 0, 1) := by decide +kernel
theorem dL_law_760 : decode cL_law 760 = .ok (.ireturn, 1) := by decide +kernel
theorem dL_law_761 : decode cL_law 761 = .ok (.aload_n 1, 1) := by decide +kernel
theorem dL_law_762 : decode cL_law 762 = .ok (.aload_n 0, 1) := by decide +kernel
theorem dL_law_763 : decode cL_law 763 = .ok (.iload_n 3, 1) := by decide +kernel
theorem dL_law_764 : decode cL_law 764 = .ok (.iconst 1, 1) := by decide +kernel
theorem dL_law_765 : decode cL_law 765 = .ok (.iadd, 1) := by decide +kernel
theorem dL_law_766 : decode cL_law 766 = .ok (.iaload, 1) := by decide +kernel
theorem dL_law_767 : decode cL_law 767 = .ok (.aload_n 0, 1) := by decide +kernel
theorem dL_law_768 : decode cL_law 768 = .ok (.iload_n 3, 1) := by decide +kernel
theorem dL_law_769 : decode cL_law 769 = .ok (.iconst 2, 1) := by decide +kernel
theorem dL_law_770 : decode cL_law 770 = .ok (.iadd, 1) := by decide +kernel
theorem dL_law_771 : decode cL_law 771 = .ok (.iaload, 1) := by decide +kernel
theorem dL_law_772 : decode cL_law 772 = .ok (.aload_n 0, 1) := by decide +kernel
theorem dL_law_773 : decode cL_law 773 = .ok (.iload_n 3, 1) := by decide +kernel
theorem dL_law_774 : decode cL_law 774 = .ok (.iconst 3, 1) := by decide +kernel
theorem dL_law_775 : decode cL_law 775 = .ok (.iadd, 1) := by decide +kernel
theorem dL_law_776 : decode cL_law 776 = .ok (.iaload, 1) := by decide +kernel
theorem dL_law_777 : decode cL_law 777 = .ok (.invokevirtual 93, 3) := by decide +kernel
theorem dL_law_780 : decode cL_law 780 = .ok (.aload_n 2, 1) := by decide +kernel
theorem dL_law_781 : decode cL_law 781 = .ok (.aload_n 0, 1) := by decide +kernel
theorem dL_law_782 : decode cL_law 782 = .ok (.iload_n 3, 1) := by decide +kernel
theorem dL_law_783 : decode cL_law 783 = .ok (.iconst 1, 1) := by decide +kernel
theorem dL_law_784 : decode cL_law 784 = .ok (.iadd, 1) := by decide +kernel
theorem dL_law_785 : decode cL_law 785 = .ok (.iaload, 1) := by decide +kernel
theorem dL_law_786 : decode cL_law 786 = .ok (.aload_n 0, 1) := by decide +kernel
theorem dL_law_787 : decode cL_law 787 = .ok (.iload_n 3, 1) := by decide +kernel
theorem dL_law_788 : decode cL_law 788 = .ok (.iconst 2, 1) := by decide +kernel
theorem dL_law_789 : decode cL_law 789 = .ok (.iadd, 1) := by decide +kernel
theorem dL_law_790 : decode cL_law 790 = .ok (.iaload, 1) := by decide +kernel
theorem dL_law_791 : decode cL_law 791 = .ok (.aload_n 0, 1) := by decide +kernel
theorem dL_law_792 : decode cL_law 792 = .ok (.iload_n 3, 1) := by decide +kernel
theorem dL_law_793 : decode cL_law 793 = .ok (.iconst 3, 1) := by decide +kernel
theorem dL_law_794 : decode cL_law 794 = .ok (.iadd, 1) := by decide +kernel
theorem dL_law_795 : decode cL_law 795 = .ok (.iaload, 1) := by decide +kernel
theorem dL_law_796 : decode cL_law 796 = .ok (.invokevirtual 96, 3) := by decide +kernel
theorem dL_law_799 : decode cL_law 799 = .ok (.if_icmp .eq 389, 3) := by decide +kernel
theorem dL_law_802 : decode cL_law 802 = .ok (.iconst 0, 1) := by decide +kernel
theorem dL_law_803 : decode cL_law 803 = .ok (.ireturn, 1) := by decide +kernel
theorem dL_law_804 : decode cL_law 804 = .ok (.aload_n 1, 1) := by decide +kernel
theorem dL_law_805 : decode cL_law 805 = .ok (.aload_n 0, 1) := by decide +kernel
theorem dL_law_806 : decode cL_law 806 = .ok (.iload_n 3, 1) := by decide +kernel
theorem dL_law_807 : decode cL_law 807 = .ok (.iconst 1, 1) := by decide +kernel
theorem dL_law_808 : decode cL_law 808 = .ok (.iadd, 1) := by decide +kernel
theorem dL_law_809 : decode cL_law 809 = .ok (.iaload, 1) := by decide +kernel
theorem dL_law_810 : decode cL_law 810 = .ok (.invokevirtual 97, 3) := by decide +kernel
theorem dL_law_813 : decode cL_law 813 = .ok (.aload_n 2, 1) := by decide +kernel
theorem dL_law_814 : decode cL_law 814 = .ok (.aload_n 0, 1) := by decide +kernel
theorem dL_law_815 : decode cL_law 815 = .ok (.iload_n 3, 1) := by decide +kernel
theorem dL_law_816 : decode cL_law 816 = .ok (.iconst 1, 1) := by decide +kernel
theorem dL_law_817 : decode cL_law 817 = .ok (.iadd, 1) := by decide +kernel
theorem dL_law_818 : decode cL_law 818 = .ok (.iaload, 1) := by decide +kernel
theorem dL_law_819 : decode cL_law 819 = .ok (.invokevirtual 100, 3) := by decide +kernel
theorem dL_law_822 : decode cL_law 822 = .ok (.if_icmp .eq 366, 3) := by decide +kernel
theorem dL_law_825 : decode cL_law 825 = .ok (.iconst 0, 1) := by decide +kernel
theorem dL_law_826 : decode cL_law 826 = .ok (.ireturn, 1) := by decide +kernel
theorem dL_law_827 : decode cL_law 827 = .ok (.aload_n 1, 1) := by decide +kernel
theorem dL_law_828 : decode cL_law 828 = .ok (.aload_n 0, 1) := by decide +kernel
theorem dL_law_829 : decode cL_law 829 = .ok (.iload_n 3, 1) := by decide +kernel
theorem dL_law_830 : decode cL_law 830 = .ok (.iconst 1, 1) := by decide +kernel
theorem dL_law_831 : decode cL_law 831 = .ok (.iadd, 1) := by decide +kernel
theorem dL_law_832 : decode cL_law 832 = .ok (.iaload, 1) := by decide +kernel
theorem dL_law_833 : decode cL_law 833 = .ok (.invokevirtual 101, 3) := by decide +kernel
theorem dL_law_836 : decode cL_law 836 = .ok (.aload_n 2, 1) := by decide +kernel
theorem dL_law_837 : decode cL_law 837 = .ok (.aload_n 0, 1) := by decide +kernel
theorem dL_law_838 : decode cL_law 838 = .ok (.iload_n 3, 1) := by decide +kernel
theorem dL_law_839 : decode cL_law 839 = .ok (.iconst 1, 1) := by decide +kernel
theorem dL_law_840 : decode cL_law 840 = .ok (.iadd, 1) := by decide +kernel
theorem dL_law_841 : decode cL_law 841 = .ok (.iaload, 1) := by decide +kernel
theorem dL_law_842 : decode cL_law 842 = .ok (.invokevirtual 104, 3) := by decide +kernel
theorem dL_law_845 : decode cL_law 845 = .ok (.if_icmp .eq 343, 3) := by decide +kernel
theorem dL_law_848 : decode cL_law 848 = .ok (.iconst 0, 1) := by decide +kernel
theorem dL_law_849 : decode cL_law 849 = .ok (.ireturn, 1) := by decide +kernel
theorem dL_law_850 : decode cL_law 850 = .ok (.aload_n 1, 1) := by decide +kernel
theorem dL_law_851 : decode cL_law 851 = .ok (.aload_n 0, 1) := by decide +kernel
theorem dL_law_852 : decode cL_law 852 = .ok (.iload_n 3, 1) := by decide +kernel
theorem dL_law_853 : decode cL_law 853 = .ok (.iconst 1, 1) := by decide +kernel
theorem dL_law_854 : decode cL_law 854 = .ok (.iadd, 1) := by decide +kernel
theorem dL_law_855 : decode cL_law 855 = .ok (.iaload, 1) := by decide +kernel
theorem dL_law_856 : decode cL_law 856 = .ok (.aload_n 0, 1) := by decide +kernel
theorem dL_law_857 : decode cL_law 857 = .ok (.iload_n 3, 1) := by decide +kernel
theorem dL_law_858 : decode cL_law 858 = .ok (.iconst 2, 1) := by decide +kernel
theorem dL_law_859 : decode cL_law 859 = .ok (.iadd, 1) := by decide +kernel
theorem dL_law_860 : decode cL_law 860 = .ok (.iaload, 1) := by decide +kernel
theorem dL_law_861 : decode cL_law 861 = .ok (.invokevirtual 105, 3) := by decide +kernel
theorem dL_law_864 : decode cL_law 864 = .ok (.aload_n 2, 1) := by decide +kernel
theorem dL_law_865 : decode cL_law 865 = .ok (.aload_n 0, 1) := by decide +kernel
theorem dL_law_866 : decode cL_law 866 = .ok (.iload_n 3, 1) := by decide +kernel
theorem dL_law_867 : decode cL_law 867 = .ok (.iconst 1, 1) := by decide +kernel
theorem dL_law_868 : decode cL_law 868 = .ok (.iadd, 1) := by decide +kernel
theorem dL_law_869 : decode cL_law 869 = .ok (.iaload, 1) := by decide +kernel
theorem dL_law_870 : decode cL_law 870 = .ok (.aload_n 0, 1) := by decide +kernel
theorem dL_law_871 : decode cL_law 871 = .ok (.iload_n 3, 1) := by decide +kernel
theorem dL_law_872 : decode cL_law 872 = .ok (.iconst 2, 1) := by decide +kernel
theorem dL_law_873 : decode cL_law 873 = .ok (.iadd, 1) := by decide +kernel
theorem dL_law_874 : decode cL_law 874 = .ok (.iaload, 1) := by decide +kernel
theorem dL_law_875 : decode cL_law 875 = .ok (.invokevirtual 108, 3) := by decide +kernel
theorem dL_law_878 : decode cL_law 878 = .ok (.if_icmp .eq 310, 3) := by decide +kernel
theorem dL_law_881 : decode cL_law 881 = .ok (.iconst 0, 1) := by decide +kernel
theorem dL_law_882 : decode cL_law 882 = .ok (.ireturn, 1) := by decide +kernel
theorem dL_law_883 : decode cL_law 883 = .ok (.aload_n 1, 1) := by decide +kernel
theorem dL_law_884 : decode cL_law 884 = .ok (.aload_n 0, 1) := by decide +kernel
theorem dL_law_885 : decode cL_law 885 = .ok (.iload_n 3, 1) := by decide +kernel
theorem dL_law_886 : decode cL_law 886 = .ok (.iconst 1, 1) := by decide +kernel
theorem dL_law_887 : decode cL_law 887 = .ok (.iadd, 1) := by decide +kernel
theorem dL_law_888 : decode cL_law 888 = .ok (.iaload, 1) := by decide +kernel
theorem dL_law_889 : decode cL_law 889 = .ok (.aload_n 0, 1) := by decide +kernel
theorem dL_law_890 : decode cL_law 890 = .ok (.iload_n 3, 1) := by decide +kernel
theorem dL_law_891 : decode cL_law 891 = .ok (.iconst 2, 1) := by decide +kernel
theorem dL_law_892 : decode cL_law 892 = .ok (.iadd, 1) := by decide +kernel
theorem dL_law_893 : decode cL_law 893 = .ok (.iaload, 1) := by decide +kernel
theorem dL_law_894 : decode cL_law 894 = .ok (.aload_n 0, 1) := by decide +kernel
theorem dL_law_895 : decode cL_law 895 = .ok (.iload_n 3, 1) := by decide +kernel
theorem dL_law_896 : decode cL_law 896 = .ok (.iconst 3, 1) := by decide +kernel
theorem dL_law_897 : decode cL_law 897 = .ok (.iadd, 1) := by decide +kernel
theorem dL_law_898 : decode cL_law 898 = .ok (.iaload, 1) := by decide +kernel
theorem dL_law_899 : decode cL_law 899 = .ok (.invokevirtual 109, 3) := by decide +kernel
theorem dL_law_902 : decode cL_law 902 = .ok (.aload_n 2, 1) := by decide +kernel
theorem dL_law_903 : decode cL_law 903 = .ok (.aload_n 0, 1) := by decide +kernel
theorem dL_law_904 : decode cL_law 904 = .ok (.iload_n 3, 1) := by decide +kernel
theorem dL_law_905 : decode cL_law 905 = .ok (.iconst 1, 1) := by decide +kernel
theorem dL_law_906 : decode cL_law 906 = .ok (.iadd, 1) := by decide +kernel
theorem dL_law_907 : decode cL_law 907 = .ok (.iaload, 1) := by decide +kernel
theorem dL_law_908 : decode cL_law 908 = .ok (.aload_n 0, 1) := by decide +kernel
theorem dL_law_909 : decode cL_law 909 = .ok (.iload_n 3, 1) := by decide +kernel
theorem dL_law_910 : decode cL_law 910 = .ok (.iconst 2, 1) := by decide +kernel
theorem dL_law_911 : decode cL_law 911 = .ok (.iadd, 1) := by decide +kernel
theorem dL_law_912 : decode cL_law 912 = .ok (.iaload, 1) := by decide +kernel
theorem dL_law_913 : decode cL_law 913 = .ok (.aload_n 0, 1) := by decide +kernel
theorem dL_law_914 : decode cL_law 914 = .ok (.iload_n 3, 1) := by decide +kernel
theorem dL_law_915 : decode cL_law 915 = .ok (.iconst 3, 1) := by decide +kernel
theorem dL_law_916 : decode cL_law 916 = .ok (.iadd, 1) := by decide +kernel
theorem dL_law_917 : decode cL_law 917 = .ok (.iaload, 1) := by decide +kernel
theorem dL_law_918 : decode cL_law 918 = .ok (.invokevirtual 112, 3) := by decide +kernel
theorem dL_law_921 : decode cL_law 921 = .ok (.if_icmp .eq 267, 3) := by decide +kernel
theorem dL_law_924 : decode cL_law 924 = .ok (.iconst 0, 1) := by decide +kernel
theorem dL_law_925 : decode cL_law 925 = .ok (.ireturn, 1) := by decide +kernel
theorem dL_law_926 : decode cL_law 926 = .ok (.aload_n 1, 1) := by decide +kernel
theorem dL_law_927 : decode cL_law 927 = .ok (.aload_n 0, 1) := by decide +kernel
theorem dL_law_928 : decode cL_law 928 = .ok (.iload_n 3, 1) := by decide +kernel
theorem dL_law_929 : decode cL_law 929 = .ok (.iconst 1, 1) := by decide +kernel
theorem dL_law_930 : decode cL_law 930 = .ok (.iadd, 1) := by decide +kernel
theorem dL_law_931 : decode cL_law 931 = .ok (.iaload, 1) := by decide +kernel
theorem dL_law_932 : decode cL_law 932 = .ok (.aload_n 0, 1) := by decide +kernel
theorem dL_law_933 : decode cL_law 933 = .ok (.iload_n 3, 1) := by decide +kernel
theorem dL_law_934 : decode cL_law 934 = .ok (.iconst 2, 1) := by decide +kernel
theorem dL_law_935 : decode cL_law 935 = .ok (.iadd, 1) := by decide +kernel
theorem dL_law_936 : decode cL_law 936 = .ok (.iaload, 1) := by decide +kernel
theorem dL_law_937 : decode cL_law 937 = .ok (.aload_n 0, 1) := by decide +kernel
theorem dL_law_938 : decode cL_law 938 = .ok (.iload_n 3, 1) := by decide +kernel
theorem dL_law_939 : decode cL_law 939 = .ok (.iconst 3, 1) := by decide +kernel
theorem dL_law_940 : decode cL_law 940 = .ok (.iadd, 1) := by decide +kernel
theorem dL_law_941 : decode cL_law 941 = .ok (.iaload, 1) := by decide +kernel
theorem dL_law_942 : decode cL_law 942 = .ok (.aload_n 0, 1) := by decide +kernel
theorem dL_law_943 : decode cL_law 943 = .ok (.iload_n 3, 1) := by decide +kernel
theorem dL_law_944 : decode cL_law 944 = .ok (.iconst 4, 1) := by decide +kernel
theorem dL_law_945 : decode cL_law 945 = .ok (.iadd, 1) := by decide +kernel
theorem dL_law_946 : decode cL_law 946 = .ok (.iaload, 1) := by decide +kernel
theorem dL_law_947 : decode cL_law 947 = .ok (.aload_n 0, 1) := by decide +kernel
theorem dL_law_948 : decode cL_law 948 = .ok (.iload_n 3, 1) := by decide +kernel
theorem dL_law_949 : decode cL_law 949 = .ok (.iconst 5, 1) := by decide +kernel
theorem dL_law_950 : decode cL_law 950 = .ok (.iadd, 1) := by decide +kernel
theorem dL_law_951 : decode cL_law 951 = .ok (.iaload, 1) := by decide +kernel
theorem dL_law_952 : decode cL_law 952 = .ok (.invokevirtual 113, 3) := by decide +kernel
theorem dL_law_955 : decode cL_law 955 = .ok (.aload_n 2, 1) := by decide +kernel
theorem dL_law_956 : decode cL_law 956 = .ok (.aload_n 0, 1) := by decide +kernel
theorem dL_law_957 : decode cL_law 957 = .ok (.iload_n 3, 1) := by decide +kernel
theorem dL_law_958 : decode cL_law 958 = .ok (.iconst 1, 1) := by decide +kernel
theorem dL_law_959 : decode cL_law 959 = .ok (.iadd, 1) := by decide +kernel
theorem dL_law_960 : decode cL_law 960 = .ok (.iaload, 1) := by decide +kernel
theorem dL_law_961 : decode cL_law 961 = .ok (.aload_n 0, 1) := by decide +kernel
theorem dL_law_962 : decode cL_law 962 = .ok (.iload_n 3, 1) := by decide +kernel
theorem dL_law_963 : decode cL_law 963 = .ok (.iconst 2, 1) := by decide +kernel
theorem dL_law_964 : decode cL_law 964 = .ok (.iadd, 1) := by decide +kernel
theorem dL_law_965 : decode cL_law 965 = .ok (.iaload, 1) := by decide +kernel
theorem dL_law_966 : decode cL_law 966 = .ok (.aload_n 0, 1) := by decide +kernel
theorem dL_law_967 : decode cL_law 967 = .ok (.iload_n 3, 1) := by decide +kernel
theorem dL_law_968 : decode cL_law 968 = .ok (.iconst 3, 1) := by decide +kernel
theorem dL_law_969 : decode cL_law 969 = .ok (.iadd, 1) := by decide +kernel
theorem dL_law_970 : decode cL_law 970 = .ok (.iaload, 1) := by decide +kernel
theorem dL_law_971 : decode cL_law 971 = .ok (.aload_n 0, 1) := by decide +kernel
theorem dL_law_972 : decode cL_law 972 = .ok (.iload_n 3, 1) := by decide +kernel
theorem dL_law_973 : decode cL_law 973 = .ok (.iconst 4, 1) := by decide +kernel
theorem dL_law_974 : decode cL_law 974 = .ok (.iadd, 1) := by decide +kernel
theorem dL_law_975 : decode cL_law 975 = .ok (.iaload, 1) := by decide +kernel
theorem dL_law_976 : decode cL_law 976 = .ok (.aload_n 0, 1) := by decide +kernel
theorem dL_law_977 : decode cL_law 977 = .ok (.iload_n 3, 1) := by decide +kernel
theorem dL_law_978 : decode cL_law 978 = .ok (.iconst 5, 1) := by decide +kernel
theorem dL_law_979 : decode cL_law 979 = .ok (.iadd, 1) := by decide +kernel
theorem dL_law_980 : decode cL_law 980 = .ok (.iaload, 1) := by decide +kernel
theorem dL_law_981 : decode cL_law 981 = .ok (.invokevirtual 117, 3) := by decide +kernel
theorem dL_law_984 : decode cL_law 984 = .ok (.lcmp, 1) := by decide +kernel
theorem dL_law_985 : decode cL_law 985 = .ok (.ifCond .eq 203, 3) := by decide +kernel
theorem dL_law_988 : decode cL_law 988 = .ok (.iconst 0, 1) := by decide +kernel
theorem dL_law_989 : decode cL_law 989 = .ok (.ireturn, 1) := by decide +kernel
theorem dL_law_990 : decode cL_law 990 = .ok (.aload_n 1, 1) := by decide +kernel
theorem dL_law_991 : decode cL_law 991 = .ok (.aload_n 0, 1) := by decide +kernel
theorem dL_law_992 : decode cL_law 992 = .ok (.iload_n 3, 1) := by decide +kernel
theorem dL_law_993 : decode cL_law 993 = .ok (.iconst 1, 1) := by decide +kernel
theorem dL_law_994 : decode cL_law 994 = .ok (.iadd, 1) := by decide +kernel
theorem dL_law_995 : decode cL_law 995 = .ok (.iaload, 1) := by decide +kernel
theorem dL_law_996 : decode cL_law 996 = .ok (.invokevirtual 118, 3) := by decide +kernel
theorem dL_law_999 : decode cL_law 999 = .ok (.aload_n 2, 1) := by decide +kernel
theorem dL_law_1000 : decode cL_law 1000 = .ok (.aload_n 0, 1) := by decide +kernel
theorem dL_law_1001 : decode cL_law 1001 = .ok (.iload_n 3, 1) := by decide +kernel
theorem dL_law_1002 : decode cL_law 1002 = .ok (.iconst 1, 1) := by decide +kernel
theorem dL_law_1003 : decode cL_law 1003 = .ok (.iadd, 1) := by decide +kernel
theorem dL_law_1004 : decode cL_law 1004 = .ok (.iaload, 1) := by decide +kernel
theorem dL_law_1005 : decode cL_law 1005 = .ok (.invokevirtual 122, 3) := by decide +kernel
theorem dL_law_1008 : decode cL_law 1008 = .ok (.lcmp, 1) := by decide +kernel
theorem dL_law_1009 : decode cL_law 1009 = .ok (.ifCond .eq 179, 3) := by decide +kernel
theorem dL_law_1012 : decode cL_law 1012 = .ok (.iconst 0, 1) := by decide +kernel
theorem dL_law_1013 : decode cL_law 1013 = .ok (.ireturn, 1) := by decide +kernel
theorem dL_law_1014 : decode cL_law 1014 = .ok (.aload_n 1, 1) := by decide +kernel
theorem dL_law_1015 : decode cL_law 1015 = .ok (.aload_n 0, 1) := by decide +kernel
theorem dL_law_1016 : decode cL_law 1016 = .ok (.iload_n 3, 1) := by decide +kernel
theorem dL_law_1017 : decode cL_law 1017 = .ok (.iconst 1, 1) := by decide +kernel
theorem dL_law_1018 : decode cL_law 1018 = .ok (.iadd, 1) := by decide +kernel
theorem dL_law_1019 : decode cL_law 1019 = .ok (.iaload, 1) := by decide +kernel
theorem dL_law_1020 : decode cL_law 1020 = .ok (.aload_n 0, 1) := by decide +kernel
theorem dL_law_1021 : decode cL_law 1021 = .ok (.iload_n 3, 1) := by decide +kernel
theorem dL_law_1022 : decode cL_law 1022 = .ok (.iconst 2, 1) := by decide +kernel
theorem dL_law_1023 : decode cL_law 1023 = .ok (.iadd, 1) := by decide +kernel
theorem dL_law_1024 : decode cL_law 1024 = .ok (.iaload, 1) := by decide +kernel
theorem dL_law_1025 : decode cL_law 1025 = .ok (.invokevirtual 123, 3) := by decide +kernel
theorem dL_law_1028 : decode cL_law 1028 = .ok (.aload_n 2, 1) := by decide +kernel
theorem dL_law_1029 : decode cL_law 1029 = .ok (.aload_n 0, 1) := by decide +kernel
theorem dL_law_1030 : decode cL_law 1030 = .ok (.iload_n 3, 1) := by decide +kernel
theorem dL_law_1031 : decode cL_law 1031 = .ok (.iconst 1, 1) := by decide +kernel
theorem dL_law_1032 : decode cL_law 1032 = .ok (.iadd, 1) := by decide +kernel
theorem dL_law_1033 : decode cL_law 1033 = .ok (.iaload, 1) := by decide +kernel
theorem dL_law_1034 : decode cL_law 1034 = .ok (.aload_n 0, 1) := by decide +kernel
theorem dL_law_1035 : decode cL_law 1035 = .ok (.iload_n 3, 1) := by decide +kernel
theorem dL_law_1036 : decode cL_law 1036 = .ok (.iconst 2, 1) := by decide +kernel
theorem dL_law_1037 : decode cL_law 1037 = .ok (.iadd, 1) := by decide +kernel
theorem dL_law_1038 : decode cL_law 1038 = .ok (.iaload, 1) := by decide +kernel
theorem dL_law_1039 : decode cL_law 1039 = .ok (.invokevirtual 126, 3) := by decide +kernel
theorem dL_law_1042 : decode cL_law 1042 = .ok (.if_icmp .eq 146, 3) := by decide +kernel
theorem dL_law_1045 : decode cL_law 1045 = .ok (.iconst 0, 1) := by decide +kernel
theorem dL_law_1046 : decode cL_law 1046 = .ok (.ireturn, 1) := by decide +kernel
theorem dL_law_1047 : decode cL_law 1047 = .ok (.aload_n 1, 1) := by decide +kernel
theorem dL_law_1048 : decode cL_law 1048 = .ok (.aload_n 0, 1) := by decide +kernel
theorem dL_law_1049 : decode cL_law 1049 = .ok (.iload_n 3, 1) := by decide +kernel
theorem dL_law_1050 : decode cL_law 1050 = .ok (.iconst 1, 1) := by decide +kernel
theorem dL_law_1051 : decode cL_law 1051 = .ok (.iadd, 1) := by decide +kernel
theorem dL_law_1052 : decode cL_law 1052 = .ok (.iaload, 1) := by decide +kernel
theorem dL_law_1053 : decode cL_law 1053 = .ok (.invokevirtual 127, 3) := by decide +kernel
theorem dL_law_1056 : decode cL_law 1056 = .ok (.aload_n 2, 1) := by decide +kernel
theorem dL_law_1057 : decode cL_law 1057 = .ok (.aload_n 0, 1) := by decide +kernel
theorem dL_law_1058 : decode cL_law 1058 = .ok (.iload_n 3, 1) := by decide +kernel
theorem dL_law_1059 : decode cL_law 1059 = .ok (.iconst 1, 1) := by decide +kernel
theorem dL_law_1060 : decode cL_law 1060 = .ok (.iadd, 1) := by decide +kernel
theorem dL_law_1061 : decode cL_law 1061 = .ok (.iaload, 1) := by decide +kernel
theorem dL_law_1062 : decode cL_law 1062 = .ok (.invokevirtual 130, 3) := by decide +kernel
theorem dL_law_1065 : decode cL_law 1065 = .ok (.if_icmp .eq 123, 3) := by decide +kernel
theorem dL_law_1068 : decode cL_law 1068 = .ok (.iconst 0, 1) := by decide +kernel
theorem dL_law_1069 : decode cL_law 1069 = .ok (.ireturn, 1) := by decide +kernel
theorem dL_law_1070 : decode cL_law 1070 = .ok (.aload_n 1, 1) := by decide +kernel
theorem dL_law_1071 : decode cL_law 1071 = .ok (.invokevirtual 131, 3) := by decide +kernel
theorem dL_law_1074 : decode cL_law 1074 = .ok (.aload_n 2, 1) := by decide +kernel
theorem dL_law_1075 : decode cL_law 1075 = .ok (.invokevirtual 134, 3) := by decide +kernel
theorem dL_law_1078 : decode cL_law 1078 = .ok (.if_icmp .eq 110, 3) := by decide +kernel
theorem dL_law_1081 : decode cL_law 1081 = .ok (.iconst 0, 1) := by decide +kernel
theorem dL_law_1082 : decode cL_law 1082 = .ok (.ireturn, 1) := by decide +kernel
theorem dL_law_1083 : decode cL_law 1083 = .ok (.aload_n 1, 1) := by decide +kernel
theorem dL_law_1084 : decode cL_law 1084 = .ok (.invokevirtual 135, 3) := by decide +kernel
theorem dL_law_1087 : decode cL_law 1087 = .ok (.aload_n 2, 1) := by decide +kernel
theorem dL_law_1088 : decode cL_law 1088 = .ok (.invokevirtual 138, 3) := by decide +kernel
theorem dL_law_1091 : decode cL_law 1091 = .ok (.if_icmp .eq 97, 3) := by decide +kernel
theorem dL_law_1094 : decode cL_law 1094 = .ok (.iconst 0, 1) := by decide +kernel
theorem dL_law_1095 : decode cL_law 1095 = .ok (.ireturn, 1) := by decide +kernel
theorem dL_law_1096 : decode cL_law 1096 = .ok (.aload_n 1, 1) := by decide +kernel
theorem dL_law_1097 : decode cL_law 1097 = .ok (.aload_n 0, 1) := by decide +kernel
theorem dL_law_1098 : decode cL_law 1098 = .ok (.iload_n 3, 1) := by decide +kernel
theorem dL_law_1099 : decode cL_law 1099 = .ok (.iconst 1, 1) := by decide +kernel
theorem dL_law_1100 : decode cL_law 1100 = .ok (.iadd, 1) := by decide +kernel
theorem dL_law_1101 : decode cL_law 1101 = .ok (.iaload, 1) := by decide +kernel
theorem dL_law_1102 : decode cL_law 1102 = .ok (.aload_n 0, 1) := by decide +kernel
theorem dL_law_1103 : decode cL_law 1103 = .ok (.iload_n 3, 1) := by decide +kernel
theorem dL_law_1104 : decode cL_law 1104 = .ok (.iconst 2, 1) := by decide +kernel
theorem dL_law_1105 : decode cL_law 1105 = .ok (.iadd, 1) := by decide +kernel
theorem dL_law_1106 : decode cL_law 1106 = .ok (.iaload, 1) := by decide +kernel
theorem dL_law_1107 : decode cL_law 1107 = .ok (.aload_n 0, 1) := by decide +kernel
theorem dL_law_1108 : decode cL_law 1108 = .ok (.iload_n 3, 1) := by decide +kernel
theorem dL_law_1109 : decode cL_law 1109 = .ok (.iconst 3, 1) := by decide +kernel
theorem dL_law_1110 : decode cL_law 1110 = .ok (.iadd, 1) := by decide +kernel
theorem dL_law_1111 : decode cL_law 1111 = .ok (.iaload, 1) := by decide +kernel
theorem dL_law_1112 : decode cL_law 1112 = .ok (.invokevirtual 139, 3) := by decide +kernel
theorem dL_law_1115 : decode cL_law 1115 = .ok (.aload_n 2, 1) := by decide +kernel
theorem dL_law_1116 : decode cL_law 1116 = .ok (.aload_n 0, 1) := by decide +kernel
theorem dL_law_1117 : decode cL_law 1117 = .ok (.iload_n 3, 1) := by decide +kernel
theorem dL_law_1118 : decode cL_law 1118 = .ok (.iconst 1, 1) := by decide +kernel
theorem dL_law_1119 : decode cL_law 1119 = .ok (.iadd, 1) := by decide +kernel
theorem dL_law_1120 : decode cL_law 1120 = .ok (.iaload, 1) := by decide +kernel
theorem dL_law_1121 : decode cL_law 1121 = .ok (.aload_n 0, 1) := by decide +kernel
theorem dL_law_1122 : decode cL_law 1122 = .ok (.iload_n 3, 1) := by decide +kernel
theorem dL_law_1123 : decode cL_law 1123 = .ok (.iconst 2, 1) := by decide +kernel
theorem dL_law_1124 : decode cL_law 1124 = .ok (.iadd, 1) := by decide +kernel
theorem dL_law_1125 : decode cL_law 1125 = .ok (.iaload, 1) := by decide +kernel
theorem dL_law_1126 : decode cL_law 1126 = .ok (.aload_n 0, 1) := by decide +kernel
theorem dL_law_1127 : decode cL_law 1127 = .ok (.iload_n 3, 1) := by decide +kernel
theorem dL_law_1128 : decode cL_law 1128 = .ok (.iconst 3, 1) := by decide +kernel
theorem dL_law_1129 : decode cL_law 1129 = .ok (.iadd, 1) := by decide +kernel
theorem dL_law_1130 : decode cL_law 1130 = .ok (.iaload, 1) := by decide +kernel
theorem dL_law_1131 : decode cL_law 1131 = .ok (.invokevirtual 142, 3) := by decide +kernel
theorem dL_law_1134 : decode cL_law 1134 = .ok (.if_icmp .eq 54, 3) := by decide +kernel
theorem dL_law_1137 : decode cL_law 1137 = .ok (.iconst 0, 1) := by decide +kernel
theorem dL_law_1138 : decode cL_law 1138 = .ok (.ireturn, 1) := by decide +kernel
theorem dL_law_1139 : decode cL_law 1139 = .ok (.aload_n 1, 1) := by decide +kernel
theorem dL_law_1140 : decode cL_law 1140 = .ok (.invokevirtual 143, 3) := by decide +kernel
theorem dL_law_1143 : decode cL_law 1143 = .ok (.aload_n 2, 1) := by decide +kernel
theorem dL_law_1144 : decode cL_law 1144 = .ok (.invokevirtual 146, 3) := by decide +kernel
theorem dL_law_1147 : decode cL_law 1147 = .ok (.if_icmp .eq 41, 3) := by decide +kernel
theorem dL_law_1150 : decode cL_law 1150 = .ok (.iconst 0, 1) := by decide +kernel
theorem dL_law_1151 : decode cL_law 1151 = .ok (.ireturn, 1) := by decide +kernel
theorem dL_law_1152 : decode cL_law 1152 = .ok (.aload_n 1, 1) := by decide +kernel
theorem dL_law_1153 : decode cL_law 1153 = .ok (.invokevirtual 147, 3) := by decide +kernel
theorem dL_law_1156 : decode cL_law 1156 = .ok (.aload_n 2, 1) := by decide +kernel
theorem dL_law_1157 : decode cL_law 1157 = .ok (.invokevirtual 150, 3) := by decide +kernel
theorem dL_law_1160 : decode cL_law 1160 = .ok (.if_icmp .eq 28, 3) := by decide +kernel
theorem dL_law_1163 : decode cL_law 1163 = .ok (.iconst 0, 1) := by decide +kernel
theorem dL_law_1164 : decode cL_law 1164 = .ok (.ireturn, 1) := by decide +kernel
theorem dL_law_1165 : decode cL_law 1165 = .ok (.aload_n 1, 1) := by decide +kernel
theorem dL_law_1166 : decode cL_law 1166 = .ok (.aload_n 0, 1) := by decide +kernel
theorem dL_law_1167 : decode cL_law 1167 = .ok (.iload_n 3, 1) := by decide +kernel
theorem dL_law_1168 : decode cL_law 1168 = .ok (.iconst 1, 1) := by decide +kernel
theorem dL_law_1169 : decode cL_law 1169 = .ok (.iadd, 1) := by decide +kernel
theorem dL_law_1170 : decode cL_law 1170 = .ok (.iaload, 1) := by decide +kernel
theorem dL_law_1171 : decode cL_law 1171 = .ok (.invokevirtual 151, 3) := by decide +kernel
theorem dL_law_1174 : decode cL_law 1174 = .ok (.aload_n 2, 1) := by decide +kernel
theorem dL_law_1175 : decode cL_law 1175 = .ok (.aload_n 0, 1) := by decide +kernel
theorem dL_law_1176 : decode cL_law 1176 = .ok (.iload_n 3, 1) := by decide +kernel
theorem dL_law_1177 : decode cL_law 1177 = .ok (.iconst 1, 1) := by decide +kernel
theorem dL_law_1178 : decode cL_law 1178 = .ok (.iadd, 1) := by decide +kernel
theorem dL_law_1179 : decode cL_law 1179 = .ok (.iaload, 1) := by decide +kernel
theorem dL_law_1180 : decode cL_law 1180 = .ok (.invokevirtual 154, 3) := by decide +kernel
theorem dL_law_1183 : decode cL_law 1183 = .ok (.if_icmp .eq 5, 3) := by decide +kernel
theorem dL_law_1186 : decode cL_law 1186 = .ok (.iconst 0, 1) := by decide +kernel
theorem dL_law_1187 : decode cL_law 1187 = .ok (.ireturn, 1) := by decide +kernel
theorem dL_law_1188 : decode cL_law 1188 = .ok (.iinc 3 6, 3) := by decide +kernel
theorem dL_law_1191 : decode cL_law 1191 = .ok (.goto (-1173), 3) := by decide +kernel
theorem dL_law_1194 : decode cL_law 1194 = .ok (.iconst 1, 1) := by decide +kernel
theorem dL_law_1195 : decode cL_law 1195 = .ok (.ireturn, 1) := by decide +kernel
end
section
/-! ===== the abstract machine: a store of ints over a fixed shape of cells ===== -/
abbrev Sg : Type := Nat → Nat → Int32
abbrev EnvT : Type := Launch × (Nat → ClassId) × (Nat → Nat → Nat) × (Nat → Nat → Nat) × (Nat → ClassId) × (Nat → Nat) × (Nat → Nat)
abbrev eL (E : EnvT) : Launch := E.1
abbrev eD (E : EnvT) : va_G := (E.2.1, E.2.2.1)
def ad (E : EnvT) : Nat → Nat → Nat := E.2.2.2.1
def cA (E : EnvT) : Nat → ClassId := E.2.2.2.2.1
def sK (E : EnvT) : Nat → Nat := E.2.2.2.2.2.1
def sV (E : EnvT) : Nat → Nat := E.2.2.2.2.2.2
/-- a method: its name, its code, how many locals, what it answers, its level -/
abbrev MI : Type := MethodName × ByteArray × Nat × Option FieldType × Nat
def rmv (d : Nat) : Room := { frames := d, cells := 0, slots := 0, locals := 35 * d }
def TB : List Cond := lw_tbl.filter goodWord
theorem tb_in {w : Cond} (i : Nat) (h : lw_tbl[i]? = some w) (g : goodWord w = true) : w ∈ TB := List.mem_filter.mpr ⟨List.mem_of_getElem? h, g⟩
theorem tb_good {w : Cond} (h : w ∈ TB) : (w.onTables && w.keeps) = true ∨ ∃ ty, w = .arrayClass ty := good_of_word (List.mem_filter.mp h).2
theorem tb_call {a b : Cond} (hb : b ∈ TB) : GoodIn (a :: TB) (b :: TB) := by
  intro w hw
  rcases List.mem_cons.mp hw with rfl | hw
  · exact ⟨List.mem_cons_of_mem _ hb, tb_good hb⟩
  · exact ⟨List.mem_cons_of_mem _ hw, tb_good hw⟩
def isNest : Cond → Bool
  | .methodLinkNest .. => true
  | .fieldLinkNest .. => true
  | _ => false
/-- the places of the cells: kind and number -/
def PL : List (Nat × Nat) := [(0, 0), (1, 0), (1, 1), (1, 2), (2, 0), (2, 1), (2, 2), (3, 0), (3, 1), (3, 2), (4, 0), (4, 1), (4, 2), (5, 0), (5, 1), (5, 2), (6, 0), (6, 1), (6, 2), (7, 0), (7, 1), (7, 2), (8, 0), (8, 1), (8, 2), (9, 0), (9, 1), (9, 2), (10, 0), (10, 1), (10, 2), (11, 0), (11, 1), (11, 2), (12, 0), (12, 1), (12, 2), (13, 0), (13, 1), (13, 2), (14, 0), (15, 0), (16, 0), (17, 0), (18, 0), (19, 0), (19, 1), (19, 2), (19, 3), (20, 0), (21, 0), (22, 0), (23, 0)]
theorem PL_nodup : PL.Nodup := by decide
/-- what a cell holds: crews are rows 0..2, the twin's rows 3..6 -/
def cel (E : EnvT) (σ : Sg) (k i : Nat) : va_E := match k with
  | 0 => .inr (8, [.ref (ad E 1 0), .ref (ad E 1 1), .ref (ad E 1 2), .int (σ 10 0), .ref (ad E 14 0), .ref (ad E 16 0), .int (σ 10 1), .ref (ad E 17 0)])
  | 1 => .inr (1, [.ref (ad E 2 i), .ref (ad E 9 i), .ref (ad E 10 i), .ref (ad E 11 i), .ref (ad E 12 i), .ref (ad E 13 i), .int (σ i 0), .int (σ i 2), .int (σ i 1)])
  | 2 => .inl (cA E 2, 6, .inr (.inr (.inr (.inr (fun j => some (ad E (3 + j) i))))))
  | 3 => .inr (7, [])
  | 4 => .inr (3, [])
  | 5 => .inr (0, [])
  | 6 => .inr (6, [])
  | 7 => .inr (4, [])
  | 8 => .inr (2, [])
  | 9 => .inl (cA E 0, 6, .inl (fun j => σ i (3 + 5 * j)))
  | 10 => .inl (cA E 0, 6, .inl (fun j => σ i (4 + 5 * j)))
  | 11 => .inl (cA E 0, 6, .inl (fun j => σ i (5 + 5 * j)))
  | 12 => .inl (cA E 0, 6, .inl (fun j => σ i (6 + 5 * j)))
  | 13 => .inl (cA E 0, 6, .inl (fun j => σ i (7 + 5 * j)))
  | 14 => .inr (5, [.ref (ad E 15 0), .int (σ 10 2)])
  | 15 => .inl (cA E 1, 96, .inl (fun j => σ 7 j))
  | 16 => .inl (cA E 0, 16, .inl (fun j => σ 8 j))
  | 17 => .inl (cA E 0, 7, .inl (fun j => σ 9 j))
  | 18 => .inr (9, [.ref (ad E 19 0), .ref (ad E 19 1), .ref (ad E 19 2), .ref (ad E 19 3), .int (σ 15 0), .ref (ad E 20 0), .ref (ad E 21 0), .ref (ad E 22 0), .int (σ 15 1), .int (σ 15 2), .int (σ 15 3), .ref (ad E 23 0), .int (σ 15 4)])
  | 19 => .inl (cA E 0, 33, .inl (fun j => σ (3 + i) j))
  | 20 => .inl (cA E 0, 96, .inl (fun j => σ 11 j))
  | 21 => .inl (cA E 0, 16, .inl (fun j => σ 12 j))
  | 22 => .inl (cA E 0, 7, .inl (fun j => σ 13 j))
  | _ => .inl (cA E 0, 3, .inl (fun j => σ 14 j))
def wsx (E : EnvT) (σ : Sg) : va_W := PL.map fun q => (ad E q.1 q.2, cel E σ q.1 q.2)
def Aof (E : EnvT) : Nat → Prop := fun a => ∃ q, q ∈ PL ∧ a = ad E q.1 q.2
def Dis (E : EnvT) : Prop := ∀ q, q ∈ PL → ∀ r, r ∈ PL → ad E q.1 q.2 = ad E r.1 r.2 → q = r
def tyl (E : EnvT) : List (ClassId × FieldType) := [(cA E 0, .int), (cA E 1, .char), (cA E 2, .object "PaidInDays$WorkerKind")]
/-- a store with one number changed -/
def s2 (σ : Sg) (a b : Nat) (v : Int32) : Sg := va_up σ a (upd (σ a) b v)
theorem wsx_get {E : EnvT} {σ : Sg} {p : Nat} {x : Nat × Nat} (h : PL[p]? = some x) : (wsx E σ)[p]? = some (ad E x.1 x.2, cel E σ x.1 x.2) := by
  unfold wsx
  rw [List.getElem?_map, h]
  rfl
theorem wsx_inv {E : EnvT} {σ : Sg} {p : Nat} {q : Nat × va_E} (h : (wsx E σ)[p]? = some q) : ∃ x, PL[p]? = some x ∧ q = (ad E x.1 x.2, cel E σ x.1 x.2) := by
  unfold wsx at h
  rw [List.getElem?_map] at h
  cases hx : PL[p]? with
  | none => rw [hx] at h; cases h
  | some x =>
    rw [hx] at h
    exact ⟨x, rfl, (Option.some.inj h).symm⟩
theorem PL_inj {p r : Nat} {x : Nat × Nat} (h1 : PL[p]? = some x) (h2 : PL[r]? = some x) : p = r := by
  obtain ⟨l1, e1⟩ := List.getElem?_eq_some_iff.mp h1
  obtain ⟨l2, e2⟩ := List.getElem?_eq_some_iff.mp h2
  exact (List.getElem_inj PL_nodup).mp (e1.trans e2.symm)
theorem wsx_D {E : EnvT} {σ : Sg} (h : Dis E) : va_D (Aof E) (wsx E σ) := by
  refine ⟨fun i j p q hi hj hpq => ?_, fun k q hk => ?_⟩
  · obtain ⟨x, hx, rfl⟩ := wsx_inv hi
    obtain ⟨y, hy, rfl⟩ := wsx_inv hj
    have hxy := h x (List.mem_of_getElem? hx) y (List.mem_of_getElem? hy) hpq
    subst hxy
    exact PL_inj hx hy
  · obtain ⟨x, hx, rfl⟩ := wsx_inv hk
    exact ⟨x, List.mem_of_getElem? hx, rfl⟩
theorem wsx_set {E : EnvT} {σ σ' : Sg} {H : Heap} {p : Nat} {x : Nat × Nat} {c : va_E} (hp : PL[p]? = some x) (h : va_P (eD E) vwCl ((wsx E σ).set p (ad E x.1 x.2, c)) H) (he : cel E σ' x.1 x.2 = c) (ho : ∀ y, y ∈ PL → y ≠ x → cel E σ' y.1 y.2 = cel E σ y.1 y.2) : va_P (eD E) vwCl (wsx E σ') H := by
  intro k q hk
  obtain ⟨y, hy, rfl⟩ := wsx_inv hk
  have hl : p < (wsx E σ).length := (List.getElem?_eq_some_iff.mp (wsx_get (E := E) (σ := σ) hp)).1
  by_cases hkp : k = p
  · subst hkp
    rw [hp] at hy
    cases hy
    have := h k (ad E x.1 x.2, c) (by rw [List.getElem?_set_self hl])
    rw [he]
    exact this
  · have hyx : y ≠ x := fun z => hkp (PL_inj (z ▸ hy) hp)
    have := h k (ad E y.1 y.2, cel E σ y.1 y.2) (by rw [List.getElem?_set_ne (Ne.symm hkp)]; exact wsx_get hy)
    rw [ho y (List.mem_of_getElem? hy) hyx]
    exact this
/-- what is known of the tables -/
def stx (i : Nat) : String := ["k0000;", "00;", "000;", "", "whbtmf"].getD i ""
def sLen : List Nat := [6, 3, 4, 0, 6]
def sByt : List (List Int32) := [[107, 48, 48, 48, 48, 59], [48, 48, 59], [48, 48, 48, 59], [], [119, 104, 98, 116, 109, 102]]
def Knw (E : EnvT) (U : State) : Prop := va_K (eD E) vwCl (tyl E) U ∧ (∀ w ∈ lw_tbl, isNest w = true → va_Nw w U) ∧ ∀ i, i < 5 → vk_R "PaidInDays$Telling" (44 + 2 * i) (stx i) (sK E i) U
def Ext (E : EnvT) (U : State) (H : Heap) : Prop := vk_S 5 sLen sByt (sK E) (sV E) (Aof E) U H ∧ va_Z "java/lang/String" "COMPACT_STRINGS" "Z" (.int 1) (Aof E) U H ∧ va_Zq "jdk/internal/util/Preconditions" "SIOOBE_FORMATTER" "Ljava/util/function/BiFunction;" (Aof E) U H
theorem nest_warm {w : Cond} {s U : State} (hn : isNest w = true) (hW : s.WarmedH U.vm) (h : va_Nw w s) : va_Nw w U := by
  cases w with
  | methodLinkNest a b c d => exact va_Nw.warmM hW h
  | fieldLinkNest a b c d e f => exact va_Nw.warmF hW h
  | _ => cases hn
theorem nest_same {w : Cond} {s U : State} (hn : isNest w = true) (hv : s.vm = U.vm) (h : va_Nw w s) : va_Nw w U := by
  cases w with
  | methodLinkNest a b c d => exact va_Nw.same rfl hv h
  | fieldLinkNest a b c d e f => exact va_Nw.same rfl hv h
  | _ => cases hn
theorem Knw.warm {E : EnvT} {s U : State} (h : Knw E s) (hW : s.WarmedH U.vm) : Knw E U := ⟨va_K.moved hW.alike h.1, fun w hw hn => nest_warm hn hW (h.2.1 w hw hn), fun i hi => (h.2.2 i hi).warm hW⟩
theorem Knw.same {E : EnvT} {s U : State} (h : Knw E s) (hv : s.vm = U.vm) : Knw E U := ⟨va_K.moved (by rw [hv]; exact Vm.Alike.refl _) h.1, fun w hw hn => nest_same hn hv (h.2.1 w hw hn), fun i hi => (h.2.2 i hi).same hv.symm⟩
theorem Ext.moved {E : EnvT} {u U : State} {H : Heap} (hv : u.vm.Alike U.vm) (h : Ext E u H) : Ext E U H := ⟨vk_S.moved hv h.1, va_Z.moved hv h.2.1, va_Zq.moved hv h.2.2⟩
theorem Ext.kept {E : EnvT} {U : State} {H H1 : Heap} (h : Ext E U H) (hq : ∀ a : Nat, a < H.size → ¬ Aof E a → H1[a]? = H[a]?) : Ext E U H1 := ⟨h.1.kept hq, h.2.1.kept hq, h.2.2.kept hq⟩
/-- a method's start and end -/
def Px (E : EnvT) (As : List Value) (σ : Sg) : Array Value → State → Prop := va_Pc As (fun U => va_P (eD E) vwCl (wsx E σ) U.heap ∧ Knw E U ∧ Ext E U U.heap ∧ Dis E)
def Qx (E : EnvT) (Q : Option Value → Sg → Prop) : Array Value → State → Outcome → State → Prop := fun _ st oc t => (∃ (v : Option Value) (σ' : Sg), oc = .returned v ∧ Q v σ' ∧ va_P (eD E) vwCl (wsx E σ') t.heap) ∧ va_F (Aof E) st t
abbrev cw (M : MI) : Cond := .code M.1 M.2.1 M.2.2.1 M.2.2.2.1
/-- the contract: with these arguments in this store it returns, and so does Q hold of the answer and the store -/
def Mw (E : EnvT) (M : MI) (As : List Value) (σ : Sg) (Q : Option Value → Sg → Prop) : Prop := Met (eL E) M.1 (cw M :: TB) (rmv M.2.2.2.2) (Px E As σ) (Qx E Q) 0 0 (Aof E)
theorem Px_blind {E : EnvT} {As : List Value} {σ : Sg} : FrameBlind (Px E As σ) := by
  intro a U g mk h
  obtain ⟨h1, h2, h3, h4, h5⟩ := h
  exact ⟨h1, h2, h3.same rfl, h4.moved (Vm.Alike.refl U.vm), h5⟩
/-- locals by their places -/
def prs : Nat → List (Option Value) → List (Nat × Value)
  | _, [] => []
  | n, none :: t => prs (n + 1) t
  | n, some v :: t => (n, v) :: prs (n + 1) t
theorem prs_mem : ∀ (L : List (Option Value)) (n : Nat) (q : Nat × Value), q ∈ prs n L ↔ ∃ j, q.1 = n + j ∧ L[j]? = some (some q.2)
  | [], n, q => by simp [prs]
  | none :: t, n, q => by
    rw [prs, prs_mem t (n + 1) q]
    constructor
    · rintro ⟨j, h1, h2⟩
      exact ⟨j + 1, by omega, by simpa using h2⟩
    · rintro ⟨j, h1, h2⟩
      cases j with
      | zero => simp at h2
      | succ j => exact ⟨j, by omega, by simpa using h2⟩
  | some v :: t, n, q => by
    rw [prs, List.mem_cons, prs_mem t (n + 1) q]
    constructor
    · rintro (rfl | ⟨j, h1, h2⟩)
      · exact ⟨0, by simp, by simp⟩
      · exact ⟨j + 1, by omega, by simpa using h2⟩
    · rintro ⟨j, h1, h2⟩
      cases j with
      | zero =>
        left
        obtain ⟨a, b⟩ := q
        simp at h1 h2
        rw [h1, h2]
      | succ j => exact Or.inr ⟨j, by omega, by simpa using h2⟩
def LH (ls : Array Slot) (nL : Nat) (L : List (Option Value)) : Prop := lv_has ls nL (prs 0 L) ∧ L.length = nL
theorem LH.at {ls : Array Slot} {nL : Nat} {L : List (Option Value)} (h : LH ls nL L) {i : Nat} {v : Value} (hv : L[i]? = some (some v)) : ls[i]? = some (.val v) := h.1.2.2 (i, v) ((prs_mem L 0 (i, v)).mpr ⟨i, by simp, hv⟩)
/-- a slot that is no long's first half -/
def oc1 (o : Option Value) : Bool := match o with
  | none => true
  | some v => v.category == 1
theorem LH.set1 {ls' : Array Slot} {nL : Nat} {L : List (Option Value)} {i : Nat} {v : Value} (hlen : L.length = nL) (hi : i < nL) (h : lv_has ls' nL ((i, v) :: (prs 0 L).filter (fun q => !(q.1 == i) && !(q.1 + 1 == i && q.2.category == 2)))) (hp : ∀ o, L[i - 1]? = some o → 0 < i → oc1 o = true) : LH ls' nL (L.set i (some v)) := by
  refine ⟨⟨h.1, h.2.1, fun q hq => ?_⟩, by simpa using hlen⟩
  obtain ⟨j, h1, h2⟩ := (prs_mem _ 0 q).mp hq
  simp only [Nat.zero_add] at h1
  refine h.2.2 q ?_
  by_cases hji : j = i
  · subst hji
    rw [List.getElem?_set_self (by omega)] at h2
    have : q = (j, v) := by
      obtain ⟨a, b⟩ := q
      simp at h1 h2
      rw [h1, h2]
    rw [this]
    exact List.mem_cons_self
  · rw [List.getElem?_set_ne (Ne.symm hji)] at h2
    refine List.mem_cons_of_mem _ (List.mem_filter.mpr ⟨(prs_mem _ 0 q).mpr ⟨j, by simpa using h1, h2⟩, ?_⟩)
    simp only [Bool.and_eq_true, Bool.not_eq_true', beq_eq_false_iff_ne, ne_eq, Bool.and_eq_false_iff]
    refine ⟨by omega, ?_⟩
    by_cases hj1 : j + 1 = i
    · right
      have := hp (some q.2) (by rw [show i - 1 = j by omega]; exact h2) (by omega)
      simp only [oc1, beq_iff_eq] at this
      omega
    · left
      omega
theorem LH.set2 {ls' : Array Slot} {nL : Nat} {L : List (Option Value)} {i : Nat} {v : Value} (hlen : L.length = nL) (hi : i + 1 < nL) (h : lv_has ls' nL ((i, v) :: (prs 0 L).filter (fun q => !(q.1 == i) && (!(q.1 == i + 1) && !(q.1 + 1 == i && q.2.category == 2))))) (hp : ∀ o, L[i - 1]? = some o → 0 < i → oc1 o = true) : LH ls' nL ((L.set i (some v)).set (i + 1) none) := by
  refine ⟨⟨h.1, h.2.1, fun q hq => ?_⟩, by simpa using hlen⟩
  obtain ⟨j, h1, h2⟩ := (prs_mem _ 0 q).mp hq
  simp only [Nat.zero_add] at h1
  refine h.2.2 q ?_
  by_cases hj2 : j = i + 1
  · subst hj2
    rw [List.getElem?_set_self (by simp; omega)] at h2
    simp at h2
  · rw [List.getElem?_set_ne (Ne.symm hj2)] at h2
    by_cases hji : j = i
    · subst hji
      rw [List.getElem?_set_self (by omega)] at h2
      have : q = (j, v) := by
        obtain ⟨a, b⟩ := q
        simp at h1 h2
        rw [h1, h2]
      rw [this]
      exact List.mem_cons_self
    · rw [List.getElem?_set_ne (Ne.symm hji)] at h2
      refine List.mem_cons_of_mem _ (List.mem_filter.mpr ⟨(prs_mem _ 0 q).mpr ⟨j, by simpa using h1, h2⟩, ?_⟩)
      simp only [Bool.and_eq_true, Bool.not_eq_true', beq_eq_false_iff_ne, ne_eq, Bool.and_eq_false_iff]
      refine ⟨by omega, by omega, ?_⟩
      by_cases hj1 : j + 1 = i
      · right
        have := hp (some q.2) (by rw [show i - 1 = j by omega]; exact h2) (by omega)
        simp only [oc1, beq_iff_eq] at this
        omega
      · left
        omega
/-- where a walk stands: its room, what it has made, its end, what else is known of the start -/
abbrev ZT : Type := Room × Nat × Nat × (List Frame → Array Value → State → State → Prop) × (State → Prop)
def Cx (E : EnvT) (M : MI) (Sc : State → Prop) (p : Program) (s : State) (m : MethodId) (args : Array Value) (meth : Method) (c : Code) : Prop :=
  p.tables.exec = Jvm.exec ∧ c.code = M.2.1 ∧ c.maxLocals = M.2.2.1 ∧ meth.sig.returnType = M.2.2.2.1 ∧ meth.locks = false ∧ s.vm.findClass M.1.cls = some m.cls ∧ (∀ w ∈ TB, w.before args s = true) ∧ Knw E s ∧ Ext E s s.heap ∧ Dis E ∧ Sc s
/-- the walk: from here, with these locals, this stack, this store, the machine comes to the end -/
def GW (E : EnvT) (Z : ZT) (M : MI) (pc : Nat) (L : List (Option Value)) (S : List Value) (σ : Sg) : Prop :=
  ∀ (p : Program) (e : Env) (s : State) (m : MethodId) (args : Array Value) (below : List Frame) (meth : Method) (c : Code) (H : Heap) (locs : List Loc) (ls : Array Slot), Cx E M Z.2.2.2.2 p s m args meth c → LH ls M.2.2.1 L → va_P (eD E) vwCl (wsx E σ) H → va_S (Aof E) s.heap H locs →
    W p (eL E) e Z.1 s m args below meth c H locs Z.2.1 Z.2.2.1 (Z.2.2.2.1 below args s) (F0 m pc ls S)
abbrev ZM (E : EnvT) (d : Nat) (Q : Option Value → Sg → Prop) : ZT := (rmv d, 0, 0, fun below args s => MQ below (Qx E Q) args s 0 0 (Aof E), fun _ => True)
abbrev G (E : EnvT) (M : MI) (Q : Option Value → Sg → Prop) (pc : Nat) (L : List (Option Value)) (S : List Value) (σ : Sg) : Prop := GW E (ZM E M.2.2.2.2 Q) M pc L S σ
theorem Mw_of {E : EnvT} {M : MI} {As : List Value} {σ : Sg} {Q : Option Value → Sg → Prop} {L0 : List (Option Value)} (hy : plainName M.1.cls = true) (hL0 : prs 0 L0 = lv_args 0 As) (hl0 : L0.length = M.2.2.1) (hle : (lg_sl As).length ≤ M.2.2.1) (h : G E M Q 0 L0 [] σ) : Mw E M As σ Q := by
  refine Met.ofW (cc := M.2.1) (maxL := M.2.2.1) (ret := M.2.2.2.1) hy rfl ?_
  intro p e s m args below meth c s₁ B hml hv
  obtain ⟨rfl, hP, hK, hX, hD⟩ := hv
  have hts := atoms_spec (ws := cw M :: TB) B.pre
  rw [lg_entry_eq]
  have hl := lv_entry As (n := M.2.2.1) hle
  exact h p e s m _ below meth c s.heap [] _ ⟨B.exec, B.bytes, hml, B.returns, B.notSynchronized, findClass_of_methodNamed B.named, fun w hw => hts w (List.mem_cons_of_mem _ hw), hK, hX, hD, trivial⟩ ⟨by rw [hL0]; exact hl, hl0⟩ hP va_S.rf
end
section
section RULES
variable {E : EnvT} {Z : ZT} {M : MI} {pc : Nat} {L : List (Option Value)} {S : List Value} {σ : Sg}
theorem r_iconst {n : Int} (v : Int32) (d : decode M.2.1 pc = .ok (.iconst n, 1)) (hv : Int32.ofInt n = v) (K : GW E Z M (pc + 1) L (.int v :: S) σ) : GW E Z M pc L (S) σ := fun p e s m args below meth c H locs ls C hl hP hS => lv_iconst C.1 C.2.1 d hv (K p e s m args below meth c H locs ls C hl hP hS)
theorem r_bipush {n : Int} (v : Int32) (d : decode M.2.1 pc = .ok (.bipush n, 2)) (hv : (Int8.ofInt n).toInt32 = v) (K : GW E Z M (pc + 2) L (.int v :: S) σ) : GW E Z M pc L (S) σ := fun p e s m args below meth c H locs ls C hl hP hS => lv_bipush C.1 C.2.1 d hv (K p e s m args below meth c H locs ls C hl hP hS)
theorem r_sipush {n : Int} (v : Int32) (d : decode M.2.1 pc = .ok (.sipush n, 3)) (hv : (Int16.ofInt n).toInt32 = v) (K : GW E Z M (pc + 3) L (.int v :: S) σ) : GW E Z M pc L (S) σ := fun p e s m args below meth c H locs ls C hl hP hS => lv_sipush C.1 C.2.1 d hv (K p e s m args below meth c H locs ls C hl hP hS)
theorem r_lconst {n : Fin 2} (v : Int64) (d : decode M.2.1 pc = .ok (.lconst n, 1)) (hv : Int64.ofNat (n : Nat) = v) (K : GW E Z M (pc + 1) L (.long v :: S) σ) : GW E Z M pc L (S) σ := fun p e s m args below meth c H locs ls C hl hP hS => lv_lconst C.1 C.2.1 d hv (K p e s m args below meth c H locs ls C hl hP hS)
theorem r_iload_n {k : Fin 4} {x : Int32} (d : decode M.2.1 pc = .ok (.iload_n k, 1)) (h : L[(k : Nat)]? = some (some (.int x))) (K : GW E Z M (pc + 1) L (.int x :: S) σ) : GW E Z M pc L (S) σ := fun p e s m args below meth c H locs ls C hl hP hS => lv_iload_n C.1 C.2.1 d rfl (hl.at h) (K p e s m args below meth c H locs ls C hl hP hS)
theorem r_iload {i : Nat} {x : Int32} (d : decode M.2.1 pc = .ok (.iload i, 2)) (h : L[i]? = some (some (.int x))) (K : GW E Z M (pc + 2) L (.int x :: S) σ) : GW E Z M pc L (S) σ := fun p e s m args below meth c H locs ls C hl hP hS => lv_iload C.1 C.2.1 d (hl.at h) (K p e s m args below meth c H locs ls C hl hP hS)
theorem r_lload_n {k : Fin 4} {x : Int64} (d : decode M.2.1 pc = .ok (.lload_n k, 1)) (h : L[(k : Nat)]? = some (some (.long x))) (K : GW E Z M (pc + 1) L (.long x :: S) σ) : GW E Z M pc L (S) σ := fun p e s m args below meth c H locs ls C hl hP hS => lv_lload_n C.1 C.2.1 d rfl (hl.at h) (K p e s m args below meth c H locs ls C hl hP hS)
theorem r_lload {i : Nat} {x : Int64} (d : decode M.2.1 pc = .ok (.lload i, 2)) (h : L[i]? = some (some (.long x))) (K : GW E Z M (pc + 2) L (.long x :: S) σ) : GW E Z M pc L (S) σ := fun p e s m args below meth c H locs ls C hl hP hS => lv_lload C.1 C.2.1 d (hl.at h) (K p e s m args below meth c H locs ls C hl hP hS)
theorem r_aload_n {k : Fin 4} {x : Nat} (d : decode M.2.1 pc = .ok (.aload_n k, 1)) (h : L[(k : Nat)]? = some (some (.ref x))) (K : GW E Z M (pc + 1) L (.ref x :: S) σ) : GW E Z M pc L (S) σ := fun p e s m args below meth c H locs ls C hl hP hS => lv_aload_n C.1 C.2.1 d rfl (hl.at h) (K p e s m args below meth c H locs ls C hl hP hS)
theorem r_aload {i : Nat} {x : Nat} (d : decode M.2.1 pc = .ok (.aload i, 2)) (h : L[i]? = some (some (.ref x))) (K : GW E Z M (pc + 2) L (.ref x :: S) σ) : GW E Z M pc L (S) σ := fun p e s m args below meth c H locs ls C hl hP hS => lv_aload C.1 C.2.1 d (hl.at h) (K p e s m args below meth c H locs ls C hl hP hS)
theorem r_iadd {x y : Int32} (d : decode M.2.1 pc = .ok (.iadd, 1)) (K : GW E Z M (pc + 1) L (.int (x + y) :: S) σ) : GW E Z M pc L (.int y :: .int x :: S) σ := fun p e s m args below meth c H locs ls C hl hP hS => lv_iadd C.1 C.2.1 d (K p e s m args below meth c H locs ls C hl hP hS)
theorem r_isub {x y : Int32} (d : decode M.2.1 pc = .ok (.isub, 1)) (K : GW E Z M (pc + 1) L (.int (x - y) :: S) σ) : GW E Z M pc L (.int y :: .int x :: S) σ := fun p e s m args below meth c H locs ls C hl hP hS => lv_isub C.1 C.2.1 d (K p e s m args below meth c H locs ls C hl hP hS)
theorem r_imul {x y : Int32} (d : decode M.2.1 pc = .ok (.imul, 1)) (K : GW E Z M (pc + 1) L (.int (x * y) :: S) σ) : GW E Z M pc L (.int y :: .int x :: S) σ := fun p e s m args below meth c H locs ls C hl hP hS => lv_imul C.1 C.2.1 d (K p e s m args below meth c H locs ls C hl hP hS)
theorem r_iand {x y : Int32} (d : decode M.2.1 pc = .ok (.iand, 1)) (K : GW E Z M (pc + 1) L (.int (x &&& y) :: S) σ) : GW E Z M pc L (.int y :: .int x :: S) σ := fun p e s m args below meth c H locs ls C hl hP hS => lv_iand C.1 C.2.1 d (K p e s m args below meth c H locs ls C hl hP hS)
theorem r_ior {x y : Int32} (d : decode M.2.1 pc = .ok (.ior, 1)) (K : GW E Z M (pc + 1) L (.int (x ||| y) :: S) σ) : GW E Z M pc L (.int y :: .int x :: S) σ := fun p e s m args below meth c H locs ls C hl hP hS => lv_ior C.1 C.2.1 d (K p e s m args below meth c H locs ls C hl hP hS)
theorem r_ixor {x y : Int32} (d : decode M.2.1 pc = .ok (.ixor, 1)) (K : GW E Z M (pc + 1) L (.int (x ^^^ y) :: S) σ) : GW E Z M pc L (.int y :: .int x :: S) σ := fun p e s m args below meth c H locs ls C hl hP hS => lv_ixor C.1 C.2.1 d (K p e s m args below meth c H locs ls C hl hP hS)
theorem r_ishl {x y : Int32} (d : decode M.2.1 pc = .ok (.ishl, 1)) (K : GW E Z M (pc + 1) L (.int (x <<< (y &&& 31)) :: S) σ) : GW E Z M pc L (.int y :: .int x :: S) σ := fun p e s m args below meth c H locs ls C hl hP hS => lv_ishl C.1 C.2.1 d (K p e s m args below meth c H locs ls C hl hP hS)
theorem r_ishr {x y : Int32} (d : decode M.2.1 pc = .ok (.ishr, 1)) (K : GW E Z M (pc + 1) L (.int (x >>> (y &&& 31)) :: S) σ) : GW E Z M pc L (.int y :: .int x :: S) σ := fun p e s m args below meth c H locs ls C hl hP hS => lv_ishr C.1 C.2.1 d (K p e s m args below meth c H locs ls C hl hP hS)
theorem r_iushr {x y : Int32} (d : decode M.2.1 pc = .ok (.iushr, 1)) (K : GW E Z M (pc + 1) L (.int (x.toUInt32 >>> (y.toUInt32 &&& Int32.toUInt32 31)).toInt32 :: S) σ) : GW E Z M pc L (.int y :: .int x :: S) σ := fun p e s m args below meth c H locs ls C hl hP hS => lv_iushr C.1 C.2.1 d rfl (K p e s m args below meth c H locs ls C hl hP hS)
theorem r_idiv {x y : Int32} (d : decode M.2.1 pc = .ok (.idiv, 1)) (hne : ¬ y = 0) (K : GW E Z M (pc + 1) L (.int (x / y) :: S) σ) : GW E Z M pc L (.int y :: .int x :: S) σ := fun p e s m args below meth c H locs ls C hl hP hS => lv_idiv C.1 C.2.1 d hne (K p e s m args below meth c H locs ls C hl hP hS)
theorem r_irem {x y : Int32} (d : decode M.2.1 pc = .ok (.irem, 1)) (hne : ¬ y = 0) (K : GW E Z M (pc + 1) L (.int (x - x / y * y) :: S) σ) : GW E Z M pc L (.int y :: .int x :: S) σ := fun p e s m args below meth c H locs ls C hl hP hS => lv_irem C.1 C.2.1 d hne (K p e s m args below meth c H locs ls C hl hP hS)
theorem r_ineg {x : Int32} (d : decode M.2.1 pc = .ok (.ineg, 1)) (K : GW E Z M (pc + 1) L (.int (-x) :: S) σ) : GW E Z M pc L (.int x :: S) σ := fun p e s m args below meth c H locs ls C hl hP hS => lv_ineg C.1 C.2.1 d (K p e s m args below meth c H locs ls C hl hP hS)
theorem r_ladd {x y : Int64} (d : decode M.2.1 pc = .ok (.ladd, 1)) (K : GW E Z M (pc + 1) L (.long (x + y) :: S) σ) : GW E Z M pc L (.long y :: .long x :: S) σ := fun p e s m args below meth c H locs ls C hl hP hS => lv_ladd C.1 C.2.1 d (K p e s m args below meth c H locs ls C hl hP hS)
theorem r_lsub {x y : Int64} (d : decode M.2.1 pc = .ok (.lsub, 1)) (K : GW E Z M (pc + 1) L (.long (x - y) :: S) σ) : GW E Z M pc L (.long y :: .long x :: S) σ := fun p e s m args below meth c H locs ls C hl hP hS => lv_lsub C.1 C.2.1 d (K p e s m args below meth c H locs ls C hl hP hS)
theorem r_lmul {x y : Int64} (d : decode M.2.1 pc = .ok (.lmul, 1)) (K : GW E Z M (pc + 1) L (.long (x * y) :: S) σ) : GW E Z M pc L (.long y :: .long x :: S) σ := fun p e s m args below meth c H locs ls C hl hP hS => lv_lmul C.1 C.2.1 d (K p e s m args below meth c H locs ls C hl hP hS)
theorem r_ldiv {x y : Int64} (d : decode M.2.1 pc = .ok (.ldiv, 1)) (hne : ¬ y = 0) (K : GW E Z M (pc + 1) L (.long (x / y) :: S) σ) : GW E Z M pc L (.long y :: .long x :: S) σ := fun p e s m args below meth c H locs ls C hl hP hS => lv_ldiv C.1 C.2.1 d hne (K p e s m args below meth c H locs ls C hl hP hS)
theorem r_lrem {x y : Int64} (d : decode M.2.1 pc = .ok (.lrem, 1)) (hne : ¬ y = 0) (K : GW E Z M (pc + 1) L (.long (x - x / y * y) :: S) σ) : GW E Z M pc L (.long y :: .long x :: S) σ := fun p e s m args below meth c H locs ls C hl hP hS => lv_lrem C.1 C.2.1 d hne (K p e s m args below meth c H locs ls C hl hP hS)
theorem r_i2l {x : Int32} (d : decode M.2.1 pc = .ok (.i2l, 1)) (K : GW E Z M (pc + 1) L (.long x.toInt64 :: S) σ) : GW E Z M pc L (.int x :: S) σ := fun p e s m args below meth c H locs ls C hl hP hS => lv_i2l C.1 C.2.1 d rfl (K p e s m args below meth c H locs ls C hl hP hS)
theorem r_i2c {x : Int32} (d : decode M.2.1 pc = .ok (.i2c, 1)) (K : GW E Z M (pc + 1) L (.int (x.toUInt32 % 65536).toInt32 :: S) σ) : GW E Z M pc L (.int x :: S) σ := fun p e s m args below meth c H locs ls C hl hP hS => lv_i2c C.1 C.2.1 d rfl (K p e s m args below meth c H locs ls C hl hP hS)
theorem r_i2b {x : Int32} (d : decode M.2.1 pc = .ok (.i2b, 1)) (K : GW E Z M (pc + 1) L (.int x.toInt8.toInt32 :: S) σ) : GW E Z M pc L (.int x :: S) σ := fun p e s m args below meth c H locs ls C hl hP hS => lv_i2b C.1 C.2.1 d rfl (K p e s m args below meth c H locs ls C hl hP hS)
theorem r_dup {v : Value} (d : decode M.2.1 pc = .ok (.dup, 1)) (hc : v.category = 1) (K : GW E Z M (pc + 1) L (v :: v :: S) σ) : GW E Z M pc L (v :: S) σ := fun p e s m args below meth c H locs ls C hl hP hS => lv_dup C.1 C.2.1 d hc (K p e s m args below meth c H locs ls C hl hP hS)
theorem r_pop {v : Value} (d : decode M.2.1 pc = .ok (.pop, 1)) (hc : v.category = 1) (K : GW E Z M (pc + 1) L (S) σ) : GW E Z M pc L (v :: S) σ := fun p e s m args below meth c H locs ls C hl hP hS => lv_pop C.1 C.2.1 d hc (K p e s m args below meth c H locs ls C hl hP hS)
theorem r_dup2 {v w : Value} (d : decode M.2.1 pc = .ok (.dup2, 1)) (hc : v.category = 1) (hd : w.category = 1) (K : GW E Z M (pc + 1) L (v :: w :: v :: w :: S) σ) : GW E Z M pc L (v :: w :: S) σ := fun p e s m args below meth c H locs ls C hl hP hS => lv_dup2_11 C.1 C.2.1 d hc hd (K p e s m args below meth c H locs ls C hl hP hS)
theorem r_lcmp {x y : Int64} (d : decode M.2.1 pc = .ok (.lcmp, 1)) (K : GW E Z M (pc + 1) L (.int (lg_cmp x y) :: S) σ) : GW E Z M pc L (.long y :: .long x :: S) σ := fun p e s m args below meth c H locs ls C hl hP hS => W.lcmp C.1 C.2.1 d (K p e s m args below meth c H locs ls C hl hP hS)
theorem r_istore_n_0 {a0 : Option Value} {T : List (Option Value)} {v : Int32} (d : decode M.2.1 pc = .ok (.istore_n 0, 1)) (K : GW E Z M (pc + 1) (some (.int v) :: T) S σ) : GW E Z M pc (a0 :: T) (.int v :: S) σ := fun p e s m args below meth c H locs ls C hl hP hS => lv_istore_n (lv := prs 0 (a0 :: T)) C.1 C.2.1 d rfl hl.1 (by have := hl.2; simp only [List.length_cons] at this; omega) rfl (fun ls1 h1 => K p e s m args below meth c H locs ls1 C (LH.set1 hl.2 (by have := hl.2; simp only [List.length_cons] at this; omega) h1 (fun o h0 hz => absurd hz (Nat.lt_irrefl 0))) hP hS)
theorem r_istore_0 {a0 : Option Value} {T : List (Option Value)} {v : Int32} (d : decode M.2.1 pc = .ok (.istore 0, 2)) (K : GW E Z M (pc + 2) (some (.int v) :: T) S σ) : GW E Z M pc (a0 :: T) (.int v :: S) σ := fun p e s m args below meth c H locs ls C hl hP hS => lv_istore (lv := prs 0 (a0 :: T)) C.1 C.2.1 d hl.1 (by have := hl.2; simp only [List.length_cons] at this; omega) rfl (fun ls1 h1 => K p e s m args below meth c H locs ls1 C (LH.set1 hl.2 (by have := hl.2; simp only [List.length_cons] at this; omega) h1 (fun o h0 hz => absurd hz (Nat.lt_irrefl 0))) hP hS)
theorem r_astore_n_0 {a0 : Option Value} {T : List (Option Value)} {v : Nat} (d : decode M.2.1 pc = .ok (.astore_n 0, 1)) (K : GW E Z M (pc + 1) (some (.ref v) :: T) S σ) : GW E Z M pc (a0 :: T) (.ref v :: S) σ := fun p e s m args below meth c H locs ls C hl hP hS => lv_astore_n (lv := prs 0 (a0 :: T)) C.1 C.2.1 d rfl hl.1 (by have := hl.2; simp only [List.length_cons] at this; omega) rfl (fun ls1 h1 => K p e s m args below meth c H locs ls1 C (LH.set1 hl.2 (by have := hl.2; simp only [List.length_cons] at this; omega) h1 (fun o h0 hz => absurd hz (Nat.lt_irrefl 0))) hP hS)
theorem r_astore_0 {a0 : Option Value} {T : List (Option Value)} {v : Nat} (d : decode M.2.1 pc = .ok (.astore 0, 2)) (K : GW E Z M (pc + 2) (some (.ref v) :: T) S σ) : GW E Z M pc (a0 :: T) (.ref v :: S) σ := fun p e s m args below meth c H locs ls C hl hP hS => lv_astore (lv := prs 0 (a0 :: T)) C.1 C.2.1 d hl.1 (by have := hl.2; simp only [List.length_cons] at this; omega) rfl (fun ls1 h1 => K p e s m args below meth c H locs ls1 C (LH.set1 hl.2 (by have := hl.2; simp only [List.length_cons] at this; omega) h1 (fun o h0 hz => absurd hz (Nat.lt_irrefl 0))) hP hS)
theorem r_iinc_0 {T : List (Option Value)} {v : Int32} {n : Int} (d : decode M.2.1 pc = .ok (.iinc 0 n, 3)) (K : GW E Z M (pc + 3) (some (.int (v + Int32.ofInt n)) :: T) S σ) : GW E Z M pc (some (.int v) :: T) S σ := fun p e s m args below meth c H locs ls C hl hP hS => by
  obtain ⟨k, hk⟩ := List.getElem?_of_mem ((prs_mem (some (.int v) :: T) 0 (0, .int v)).mpr ⟨0, rfl, rfl⟩)
  exact lv_iinc (lv := prs 0 (some (.int v) :: T)) C.1 C.2.1 d hl.1 hk rfl (by have := hl.2; simp only [List.length_cons] at this; omega) rfl (fun ls1 h1 => K p e s m args below meth c H locs ls1 C (LH.set1 (v := .int (v + Int32.ofInt n)) hl.2 (by have := hl.2; simp only [List.length_cons] at this; omega) h1 (fun o h0 hz => absurd hz (Nat.lt_irrefl 0))) hP hS)
theorem r_lstore_n_0 {a0 a1 : Option Value} {T : List (Option Value)} {v : Int64} (d : decode M.2.1 pc = .ok (.lstore_n 0, 1)) (K : GW E Z M (pc + 1) (some (.long v) :: none :: T) S σ) : GW E Z M pc (a0 :: a1 :: T) (.long v :: S) σ := fun p e s m args below meth c H locs ls C hl hP hS => lv_lstore_n (lv := prs 0 (a0 :: a1 :: T)) C.1 C.2.1 d rfl hl.1 (by have := hl.2; simp only [List.length_cons] at this; omega) rfl (fun ls1 h1 => K p e s m args below meth c H locs ls1 C (LH.set2 hl.2 (by have := hl.2; simp only [List.length_cons] at this; omega) h1 (fun o h0 hz => absurd hz (Nat.lt_irrefl 0))) hP hS)
theorem r_lstore_0 {a0 a1 : Option Value} {T : List (Option Value)} {v : Int64} (d : decode M.2.1 pc = .ok (.lstore 0, 2)) (K : GW E Z M (pc + 2) (some (.long v) :: none :: T) S σ) : GW E Z M pc (a0 :: a1 :: T) (.long v :: S) σ := fun p e s m args below meth c H locs ls C hl hP hS => lv_lstore (lv := prs 0 (a0 :: a1 :: T)) C.1 C.2.1 d hl.1 (by have := hl.2; simp only [List.length_cons] at this; omega) rfl (fun ls1 h1 => K p e s m args below meth c H locs ls1 C (LH.set2 hl.2 (by have := hl.2; simp only [List.length_cons] at this; omega) h1 (fun o h0 hz => absurd hz (Nat.lt_irrefl 0))) hP hS)
theorem r_istore_n_1 {a0 a1 : Option Value} {T : List (Option Value)} {v : Int32} (d : decode M.2.1 pc = .ok (.istore_n 1, 1)) (ho : oc1 a0 = true) (K : GW E Z M (pc + 1) (a0 :: some (.int v) :: T) S σ) : GW E Z M pc (a0 :: a1 :: T) (.int v :: S) σ := fun p e s m args below meth c H locs ls C hl hP hS => lv_istore_n (lv := prs 0 (a0 :: a1 :: T)) C.1 C.2.1 d rfl hl.1 (by have := hl.2; simp only [List.length_cons] at this; omega) rfl (fun ls1 h1 => K p e s m args below meth c H locs ls1 C (LH.set1 hl.2 (by have := hl.2; simp only [List.length_cons] at this; omega) h1 (fun o h0 hz => by cases h0; exact ho)) hP hS)
theorem r_istore_1 {a0 a1 : Option Value} {T : List (Option Value)} {v : Int32} (d : decode M.2.1 pc = .ok (.istore 1, 2)) (ho : oc1 a0 = true) (K : GW E Z M (pc + 2) (a0 :: some (.int v) :: T) S σ) : GW E Z M pc (a0 :: a1 :: T) (.int v :: S) σ := fun p e s m args below meth c H locs ls C hl hP hS => lv_istore (lv := prs 0 (a0 :: a1 :: T)) C.1 C.2.1 d hl.1 (by have := hl.2; simp only [List.length_cons] at this; omega) rfl (fun ls1 h1 => K p e s m args below meth c H locs ls1 C (LH.set1 hl.2 (by have := hl.2; simp only [List.length_cons] at this; omega) h1 (fun o h0 hz => by cases h0; exact ho)) hP hS)
theorem r_astore_n_1 {a0 a1 : Option Value} {T : List (Option Value)} {v : Nat} (d : decode M.2.1 pc = .ok (.astore_n 1, 1)) (ho : oc1 a0 = true) (K : GW E Z M (pc + 1) (a0 :: some (.ref v) :: T) S σ) : GW E Z M pc (a0 :: a1 :: T) (.ref v :: S) σ := fun p e s m args below meth c H locs ls C hl hP hS => lv_astore_n (lv := prs 0 (a0 :: a1 :: T)) C.1 C.2.1 d rfl hl.1 (by have := hl.2; simp only [List.length_cons] at this; omega) rfl (fun ls1 h1 => K p e s m args below meth c H locs ls1 C (LH.set1 hl.2 (by have := hl.2; simp only [List.length_cons] at this; omega) h1 (fun o h0 hz => by cases h0; exact ho)) hP hS)
theorem r_astore_1 {a0 a1 : Option Value} {T : List (Option Value)} {v : Nat} (d : decode M.2.1 pc = .ok (.astore 1, 2)) (ho : oc1 a0 = true) (K : GW E Z M (pc + 2) (a0 :: some (.ref v) :: T) S σ) : GW E Z M pc (a0 :: a1 :: T) (.ref v :: S) σ := fun p e s m args below meth c H locs ls C hl hP hS => lv_astore (lv := prs 0 (a0 :: a1 :: T)) C.1 C.2.1 d hl.1 (by have := hl.2; simp only [List.length_cons] at this; omega) rfl (fun ls1 h1 => K p e s m args below meth c H locs ls1 C (LH.set1 hl.2 (by have := hl.2; simp only [List.length_cons] at this; omega) h1 (fun o h0 hz => by cases h0; exact ho)) hP hS)
theorem r_iinc_1 {a0 : Option Value} {T : List (Option Value)} {v : Int32} {n : Int} (d : decode M.2.1 pc = .ok (.iinc 1 n, 3)) (ho : oc1 a0 = true) (K : GW E Z M (pc + 3) (a0 :: some (.int (v + Int32.ofInt n)) :: T) S σ) : GW E Z M pc (a0 :: some (.int v) :: T) S σ := fun p e s m args below meth c H locs ls C hl hP hS => by
  obtain ⟨k, hk⟩ := List.getElem?_of_mem ((prs_mem (a0 :: some (.int v) :: T) 0 (1, .int v)).mpr ⟨1, rfl, rfl⟩)
  exact lv_iinc (lv := prs 0 (a0 :: some (.int v) :: T)) C.1 C.2.1 d hl.1 hk rfl (by have := hl.2; simp only [List.length_cons] at this; omega) rfl (fun ls1 h1 => K p e s m args below meth c H locs ls1 C (LH.set1 (v := .int (v + Int32.ofInt n)) hl.2 (by have := hl.2; simp only [List.length_cons] at this; omega) h1 (fun o h0 hz => by cases h0; exact ho)) hP hS)
theorem r_lstore_n_1 {a0 a1 a2 : Option Value} {T : List (Option Value)} {v : Int64} (d : decode M.2.1 pc = .ok (.lstore_n 1, 1)) (ho : oc1 a0 = true) (K : GW E Z M (pc + 1) (a0 :: some (.long v) :: none :: T) S σ) : GW E Z M pc (a0 :: a1 :: a2 :: T) (.long v :: S) σ := fun p e s m args below meth c H locs ls C hl hP hS => lv_lstore_n (lv := prs 0 (a0 :: a1 :: a2 :: T)) C.1 C.2.1 d rfl hl.1 (by have := hl.2; simp only [List.length_cons] at this; omega) rfl (fun ls1 h1 => K p e s m args below meth c H locs ls1 C (LH.set2 hl.2 (by have := hl.2; simp only [List.length_cons] at this; omega) h1 (fun o h0 hz => by cases h0; exact ho)) hP hS)
theorem r_lstore_1 {a0 a1 a2 : Option Value} {T : List (Option Value)} {v : Int64} (d : decode M.2.1 pc = .ok (.lstore 1, 2)) (ho : oc1 a0 = true) (K : GW E Z M (pc + 2) (a0 :: some (.long v) :: none :: T) S σ) : GW E Z M pc (a0 :: a1 :: a2 :: T) (.long v :: S) σ := fun p e s m args below meth c H locs ls C hl hP hS => lv_lstore (lv := prs 0 (a0 :: a1 :: a2 :: T)) C.1 C.2.1 d hl.1 (by have := hl.2; simp only [List.length_cons] at this; omega) rfl (fun ls1 h1 => K p e s m args below meth c H locs ls1 C (LH.set2 hl.2 (by have := hl.2; simp only [List.length_cons] at this; omega) h1 (fun o h0 hz => by cases h0; exact ho)) hP hS)
theorem r_istore_n_2 {a0 a1 a2 : Option Value} {T : List (Option Value)} {v : Int32} (d : decode M.2.1 pc = .ok (.istore_n 2, 1)) (ho : oc1 a1 = true) (K : GW E Z M (pc + 1) (a0 :: a1 :: some (.int v) :: T) S σ) : GW E Z M pc (a0 :: a1 :: a2 :: T) (.int v :: S) σ := fun p e s m args below meth c H locs ls C hl hP hS => lv_istore_n (lv := prs 0 (a0 :: a1 :: a2 :: T)) C.1 C.2.1 d rfl hl.1 (by have := hl.2; simp only [List.length_cons] at this; omega) rfl (fun ls1 h1 => K p e s m args below meth c H locs ls1 C (LH.set1 hl.2 (by have := hl.2; simp only [List.length_cons] at this; omega) h1 (fun o h0 hz => by cases h0; exact ho)) hP hS)
theorem r_istore_2 {a0 a1 a2 : Option Value} {T : List (Option Value)} {v : Int32} (d : decode M.2.1 pc = .ok (.istore 2, 2)) (ho : oc1 a1 = true) (K : GW E Z M (pc + 2) (a0 :: a1 :: some (.int v) :: T) S σ) : GW E Z M pc (a0 :: a1 :: a2 :: T) (.int v :: S) σ := fun p e s m args below meth c H locs ls C hl hP hS => lv_istore (lv := prs 0 (a0 :: a1 :: a2 :: T)) C.1 C.2.1 d hl.1 (by have := hl.2; simp only [List.length_cons] at this; omega) rfl (fun ls1 h1 => K p e s m args below meth c H locs ls1 C (LH.set1 hl.2 (by have := hl.2; simp only [List.length_cons] at this; omega) h1 (fun o h0 hz => by cases h0; exact ho)) hP hS)
theorem r_astore_n_2 {a0 a1 a2 : Option Value} {T : List (Option Value)} {v : Nat} (d : decode M.2.1 pc = .ok (.astore_n 2, 1)) (ho : oc1 a1 = true) (K : GW E Z M (pc + 1) (a0 :: a1 :: some (.ref v) :: T) S σ) : GW E Z M pc (a0 :: a1 :: a2 :: T) (.ref v :: S) σ := fun p e s m args below meth c H locs ls C hl hP hS => lv_astore_n (lv := prs 0 (a0 :: a1 :: a2 :: T)) C.1 C.2.1 d rfl hl.1 (by have := hl.2; simp only [List.length_cons] at this; omega) rfl (fun ls1 h1 => K p e s m args below meth c H locs ls1 C (LH.set1 hl.2 (by have := hl.2; simp only [List.length_cons] at this; omega) h1 (fun o h0 hz => by cases h0; exact ho)) hP hS)
theorem r_astore_2 {a0 a1 a2 : Option Value} {T : List (Option Value)} {v : Nat} (d : decode M.2.1 pc = .ok (.astore 2, 2)) (ho : oc1 a1 = true) (K : GW E Z M (pc + 2) (a0 :: a1 :: some (.ref v) :: T) S σ) : GW E Z M pc (a0 :: a1 :: a2 :: T) (.ref v :: S) σ := fun p e s m args below meth c H locs ls C hl hP hS => lv_astore (lv := prs 0 (a0 :: a1 :: a2 :: T)) C.1 C.2.1 d hl.1 (by have := hl.2; simp only [List.length_cons] at this; omega) rfl (fun ls1 h1 => K p e s m args below meth c H locs ls1 C (LH.set1 hl.2 (by have := hl.2; simp only [List.length_cons] at this; omega) h1 (fun o h0 hz => by cases h0; exact ho)) hP hS)
theorem r_iinc_2 {a0 a1 : Option Value} {T : List (Option Value)} {v : Int32} {n : Int} (d : decode M.2.1 pc = .ok (.iinc 2 n, 3)) (ho : oc1 a1 = true) (K : GW E Z M (pc + 3) (a0 :: a1 :: some (.int (v + Int32.ofInt n)) :: T) S σ) : GW E Z M pc (a0 :: a1 :: some (.int v) :: T) S σ := fun p e s m args below meth c H locs ls C hl hP hS => by
  obtain ⟨k, hk⟩ := List.getElem?_of_mem ((prs_mem (a0 :: a1 :: some (.int v) :: T) 0 (2, .int v)).mpr ⟨2, rfl, rfl⟩)
  exact lv_iinc (lv := prs 0 (a0 :: a1 :: some (.int v) :: T)) C.1 C.2.1 d hl.1 hk rfl (by have := hl.2; simp only [List.length_cons] at this; omega) rfl (fun ls1 h1 => K p e s m args below meth c H locs ls1 C (LH.set1 (v := .int (v + Int32.ofInt n)) hl.2 (by have := hl.2; simp only [List.length_cons] at this; omega) h1 (fun o h0 hz => by cases h0; exact ho)) hP hS)
theorem r_lstore_n_2 {a0 a1 a2 a3 : Option Value} {T : List (Option Value)} {v : Int64} (d : decode M.2.1 pc = .ok (.lstore_n 2, 1)) (ho : oc1 a1 = true) (K : GW E Z M (pc + 1) (a0 :: a1 :: some (.long v) :: none :: T) S σ) : GW E Z M pc (a0 :: a1 :: a2 :: a3 :: T) (.long v :: S) σ := fun p e s m args below meth c H locs ls C hl hP hS => lv_lstore_n (lv := prs 0 (a0 :: a1 :: a2 :: a3 :: T)) C.1 C.2.1 d rfl hl.1 (by have := hl.2; simp only [List.length_cons] at this; omega) rfl (fun ls1 h1 => K p e s m args below meth c H locs ls1 C (LH.set2 hl.2 (by have := hl.2; simp only [List.length_cons] at this; omega) h1 (fun o h0 hz => by cases h0; exact ho)) hP hS)
theorem r_lstore_2 {a0 a1 a2 a3 : Option Value} {T : List (Option Value)} {v : Int64} (d : decode M.2.1 pc = .ok (.lstore 2, 2)) (ho : oc1 a1 = true) (K : GW E Z M (pc + 2) (a0 :: a1 :: some (.long v) :: none :: T) S σ) : GW E Z M pc (a0 :: a1 :: a2 :: a3 :: T) (.long v :: S) σ := fun p e s m args below meth c H locs ls C hl hP hS => lv_lstore (lv := prs 0 (a0 :: a1 :: a2 :: a3 :: T)) C.1 C.2.1 d hl.1 (by have := hl.2; simp only [List.length_cons] at this; omega) rfl (fun ls1 h1 => K p e s m args below meth c H locs ls1 C (LH.set2 hl.2 (by have := hl.2; simp only [List.length_cons] at this; omega) h1 (fun o h0 hz => by cases h0; exact ho)) hP hS)
theorem r_istore_n_3 {a0 a1 a2 a3 : Option Value} {T : List (Option Value)} {v : Int32} (d : decode M.2.1 pc = .ok (.istore_n 3, 1)) (ho : oc1 a2 = true) (K : GW E Z M (pc + 1) (a0 :: a1 :: a2 :: some (.int v) :: T) S σ) : GW E Z M pc (a0 :: a1 :: a2 :: a3 :: T) (.int v :: S) σ := fun p e s m args below meth c H locs ls C hl hP hS => lv_istore_n (lv := prs 0 (a0 :: a1 :: a2 :: a3 :: T)) C.1 C.2.1 d rfl hl.1 (by have := hl.2; simp only [List.length_cons] at this; omega) rfl (fun ls1 h1 => K p e s m args below meth c H locs ls1 C (LH.set1 hl.2 (by have := hl.2; simp only [List.length_cons] at this; omega) h1 (fun o h0 hz => by cases h0; exact ho)) hP hS)
theorem r_istore_3 {a0 a1 a2 a3 : Option Value} {T : List (Option Value)} {v : Int32} (d : decode M.2.1 pc = .ok (.istore 3, 2)) (ho : oc1 a2 = true) (K : GW E Z M (pc + 2) (a0 :: a1 :: a2 :: some (.int v) :: T) S σ) : GW E Z M pc (a0 :: a1 :: a2 :: a3 :: T) (.int v :: S) σ := fun p e s m args below meth c H locs ls C hl hP hS => lv_istore (lv := prs 0 (a0 :: a1 :: a2 :: a3 :: T)) C.1 C.2.1 d hl.1 (by have := hl.2; simp only [List.length_cons] at this; omega) rfl (fun ls1 h1 => K p e s m args below meth c H locs ls1 C (LH.set1 hl.2 (by have := hl.2; simp only [List.length_cons] at this; omega) h1 (fun o h0 hz => by cases h0; exact ho)) hP hS)
theorem r_astore_n_3 {a0 a1 a2 a3 : Option Value} {T : List (Option Value)} {v : Nat} (d : decode M.2.1 pc = .ok (.astore_n 3, 1)) (ho : oc1 a2 = true) (K : GW E Z M (pc + 1) (a0 :: a1 :: a2 :: some (.ref v) :: T) S σ) : GW E Z M pc (a0 :: a1 :: a2 :: a3 :: T) (.ref v :: S) σ := fun p e s m args below meth c H locs ls C hl hP hS => lv_astore_n (lv := prs 0 (a0 :: a1 :: a2 :: a3 :: T)) C.1 C.2.1 d rfl hl.1 (by have := hl.2; simp only [List.length_cons] at this; omega) rfl (fun ls1 h1 => K p e s m args below meth c H locs ls1 C (LH.set1 hl.2 (by have := hl.2; simp only [List.length_cons] at this; omega) h1 (fun o h0 hz => by cases h0; exact ho)) hP hS)
theorem r_astore_3 {a0 a1 a2 a3 : Option Value} {T : List (Option Value)} {v : Nat} (d : decode M.2.1 pc = .ok (.astore 3, 2)) (ho : oc1 a2 = true) (K : GW E Z M (pc + 2) (a0 :: a1 :: a2 :: some (.ref v) :: T) S σ) : GW E Z M pc (a0 :: a1 :: a2 :: a3 :: T) (.ref v :: S) σ := fun p e s m args below meth c H locs ls C hl hP hS => lv_astore (lv := prs 0 (a0 :: a1 :: a2 :: a3 :: T)) C.1 C.2.1 d hl.1 (by have := hl.2; simp only [List.length_cons] at this; omega) rfl (fun ls1 h1 => K p e s m args below meth c H locs ls1 C (LH.set1 hl.2 (by have := hl.2; simp only [List.length_cons] at this; omega) h1 (fun o h0 hz => by cases h0; exact ho)) hP hS)
theorem r_iinc_3 {a0 a1 a2 : Option Value} {T : List (Option Value)} {v : Int32} {n : Int} (d : decode M.2.1 pc = .ok (.iinc 3 n, 3)) (ho : oc1 a2 = true) (K : GW E Z M (pc + 3) (a0 :: a1 :: a2 :: some (.int (v + Int32.ofInt n)) :: T) S σ) : GW E Z M pc (a0 :: a1 :: a2 :: some (.int v) :: T) S σ := fun p e s m args below meth c H locs ls C hl hP hS => by
  obtain ⟨k, hk⟩ := List.getElem?_of_mem ((prs_mem (a0 :: a1 :: a2 :: some (.int v) :: T) 0 (3, .int v)).mpr ⟨3, rfl, rfl⟩)
  exact lv_iinc (lv := prs 0 (a0 :: a1 :: a2 :: some (.int v) :: T)) C.1 C.2.1 d hl.1 hk rfl (by have := hl.2; simp only [List.length_cons] at this; omega) rfl (fun ls1 h1 => K p e s m args below meth c H locs ls1 C (LH.set1 (v := .int (v + Int32.ofInt n)) hl.2 (by have := hl.2; simp only [List.length_cons] at this; omega) h1 (fun o h0 hz => by cases h0; exact ho)) hP hS)
theorem r_lstore_n_3 {a0 a1 a2 a3 a4 : Option Value} {T : List (Option Value)} {v : Int64} (d : decode M.2.1 pc = .ok (.lstore_n 3, 1)) (ho : oc1 a2 = true) (K : GW E Z M (pc + 1) (a0 :: a1 :: a2 :: some (.long v) :: none :: T) S σ) : GW E Z M pc (a0 :: a1 :: a2 :: a3 :: a4 :: T) (.long v :: S) σ := fun p e s m args below meth c H locs ls C hl hP hS => lv_lstore_n (lv := prs 0 (a0 :: a1 :: a2 :: a3 :: a4 :: T)) C.1 C.2.1 d rfl hl.1 (by have := hl.2; simp only [List.length_cons] at this; omega) rfl (fun ls1 h1 => K p e s m args below meth c H locs ls1 C (LH.set2 hl.2 (by have := hl.2; simp only [List.length_cons] at this; omega) h1 (fun o h0 hz => by cases h0; exact ho)) hP hS)
theorem r_lstore_3 {a0 a1 a2 a3 a4 : Option Value} {T : List (Option Value)} {v : Int64} (d : decode M.2.1 pc = .ok (.lstore 3, 2)) (ho : oc1 a2 = true) (K : GW E Z M (pc + 2) (a0 :: a1 :: a2 :: some (.long v) :: none :: T) S σ) : GW E Z M pc (a0 :: a1 :: a2 :: a3 :: a4 :: T) (.long v :: S) σ := fun p e s m args below meth c H locs ls C hl hP hS => lv_lstore (lv := prs 0 (a0 :: a1 :: a2 :: a3 :: a4 :: T)) C.1 C.2.1 d hl.1 (by have := hl.2; simp only [List.length_cons] at this; omega) rfl (fun ls1 h1 => K p e s m args below meth c H locs ls1 C (LH.set2 hl.2 (by have := hl.2; simp only [List.length_cons] at this; omega) h1 (fun o h0 hz => by cases h0; exact ho)) hP hS)
theorem r_istore_4 {a0 a1 a2 a3 a4 : Option Value} {T : List (Option Value)} {v : Int32} (d : decode M.2.1 pc = .ok (.istore 4, 2)) (ho : oc1 a3 = true) (K : GW E Z M (pc + 2) (a0 :: a1 :: a2 :: a3 :: some (.int v) :: T) S σ) : GW E Z M pc (a0 :: a1 :: a2 :: a3 :: a4 :: T) (.int v :: S) σ := fun p e s m args below meth c H locs ls C hl hP hS => lv_istore (lv := prs 0 (a0 :: a1 :: a2 :: a3 :: a4 :: T)) C.1 C.2.1 d hl.1 (by have := hl.2; simp only [List.length_cons] at this; omega) rfl (fun ls1 h1 => K p e s m args below meth c H locs ls1 C (LH.set1 hl.2 (by have := hl.2; simp only [List.length_cons] at this; omega) h1 (fun o h0 hz => by cases h0; exact ho)) hP hS)
theorem r_astore_4 {a0 a1 a2 a3 a4 : Option Value} {T : List (Option Value)} {v : Nat} (d : decode M.2.1 pc = .ok (.astore 4, 2)) (ho : oc1 a3 = true) (K : GW E Z M (pc + 2) (a0 :: a1 :: a2 :: a3 :: some (.ref v) :: T) S σ) : GW E Z M pc (a0 :: a1 :: a2 :: a3 :: a4 :: T) (.ref v :: S) σ := fun p e s m args below meth c H locs ls C hl hP hS => lv_astore (lv := prs 0 (a0 :: a1 :: a2 :: a3 :: a4 :: T)) C.1 C.2.1 d hl.1 (by have := hl.2; simp only [List.length_cons] at this; omega) rfl (fun ls1 h1 => K p e s m args below meth c H locs ls1 C (LH.set1 hl.2 (by have := hl.2; simp only [List.length_cons] at this; omega) h1 (fun o h0 hz => by cases h0; exact ho)) hP hS)
theorem r_iinc_4 {a0 a1 a2 a3 : Option Value} {T : List (Option Value)} {v : Int32} {n : Int} (d : decode M.2.1 pc = .ok (.iinc 4 n, 3)) (ho : oc1 a3 = true) (K : GW E Z M (pc + 3) (a0 :: a1 :: a2 :: a3 :: some (.int (v + Int32.ofInt n)) :: T) S σ) : GW E Z M pc (a0 :: a1 :: a2 :: a3 :: some (.int v) :: T) S σ := fun p e s m args below meth c H locs ls C hl hP hS => by
  obtain ⟨k, hk⟩ := List.getElem?_of_mem ((prs_mem (a0 :: a1 :: a2 :: a3 :: some (.int v) :: T) 0 (4, .int v)).mpr ⟨4, rfl, rfl⟩)
  exact lv_iinc (lv := prs 0 (a0 :: a1 :: a2 :: a3 :: some (.int v) :: T)) C.1 C.2.1 d hl.1 hk rfl (by have := hl.2; simp only [List.length_cons] at this; omega) rfl (fun ls1 h1 => K p e s m args below meth c H locs ls1 C (LH.set1 (v := .int (v + Int32.ofInt n)) hl.2 (by have := hl.2; simp only [List.length_cons] at this; omega) h1 (fun o h0 hz => by cases h0; exact ho)) hP hS)
theorem r_lstore_4 {a0 a1 a2 a3 a4 a5 : Option Value} {T : List (Option Value)} {v : Int64} (d : decode M.2.1 pc = .ok (.lstore 4, 2)) (ho : oc1 a3 = true) (K : GW E Z M (pc + 2) (a0 :: a1 :: a2 :: a3 :: some (.long v) :: none :: T) S σ) : GW E Z M pc (a0 :: a1 :: a2 :: a3 :: a4 :: a5 :: T) (.long v :: S) σ := fun p e s m args below meth c H locs ls C hl hP hS => lv_lstore (lv := prs 0 (a0 :: a1 :: a2 :: a3 :: a4 :: a5 :: T)) C.1 C.2.1 d hl.1 (by have := hl.2; simp only [List.length_cons] at this; omega) rfl (fun ls1 h1 => K p e s m args below meth c H locs ls1 C (LH.set2 hl.2 (by have := hl.2; simp only [List.length_cons] at this; omega) h1 (fun o h0 hz => by cases h0; exact ho)) hP hS)
theorem r_istore_5 {a0 a1 a2 a3 a4 a5 : Option Value} {T : List (Option Value)} {v : Int32} (d : decode M.2.1 pc = .ok (.istore 5, 2)) (ho : oc1 a4 = true) (K : GW E Z M (pc + 2) (a0 :: a1 :: a2 :: a3 :: a4 :: some (.int v) :: T) S σ) : GW E Z M pc (a0 :: a1 :: a2 :: a3 :: a4 :: a5 :: T) (.int v :: S) σ := fun p e s m args below meth c H locs ls C hl hP hS => lv_istore (lv := prs 0 (a0 :: a1 :: a2 :: a3 :: a4 :: a5 :: T)) C.1 C.2.1 d hl.1 (by have := hl.2; simp only [List.length_cons] at this; omega) rfl (fun ls1 h1 => K p e s m args below meth c H locs ls1 C (LH.set1 hl.2 (by have := hl.2; simp only [List.length_cons] at this; omega) h1 (fun o h0 hz => by cases h0; exact ho)) hP hS)
theorem r_astore_5 {a0 a1 a2 a3 a4 a5 : Option Value} {T : List (Option Value)} {v : Nat} (d : decode M.2.1 pc = .ok (.astore 5, 2)) (ho : oc1 a4 = true) (K : GW E Z M (pc + 2) (a0 :: a1 :: a2 :: a3 :: a4 :: some (.ref v) :: T) S σ) : GW E Z M pc (a0 :: a1 :: a2 :: a3 :: a4 :: a5 :: T) (.ref v :: S) σ := fun p e s m args below meth c H locs ls C hl hP hS => lv_astore (lv := prs 0 (a0 :: a1 :: a2 :: a3 :: a4 :: a5 :: T)) C.1 C.2.1 d hl.1 (by have := hl.2; simp only [List.length_cons] at this; omega) rfl (fun ls1 h1 => K p e s m args below meth c H locs ls1 C (LH.set1 hl.2 (by have := hl.2; simp only [List.length_cons] at this; omega) h1 (fun o h0 hz => by cases h0; exact ho)) hP hS)
theorem r_iinc_5 {a0 a1 a2 a3 a4 : Option Value} {T : List (Option Value)} {v : Int32} {n : Int} (d : decode M.2.1 pc = .ok (.iinc 5 n, 3)) (ho : oc1 a4 = true) (K : GW E Z M (pc + 3) (a0 :: a1 :: a2 :: a3 :: a4 :: some (.int (v + Int32.ofInt n)) :: T) S σ) : GW E Z M pc (a0 :: a1 :: a2 :: a3 :: a4 :: some (.int v) :: T) S σ := fun p e s m args below meth c H locs ls C hl hP hS => by
  obtain ⟨k, hk⟩ := List.getElem?_of_mem ((prs_mem (a0 :: a1 :: a2 :: a3 :: a4 :: some (.int v) :: T) 0 (5, .int v)).mpr ⟨5, rfl, rfl⟩)
  exact lv_iinc (lv := prs 0 (a0 :: a1 :: a2 :: a3 :: a4 :: some (.int v) :: T)) C.1 C.2.1 d hl.1 hk rfl (by have := hl.2; simp only [List.length_cons] at this; omega) rfl (fun ls1 h1 => K p e s m args below meth c H locs ls1 C (LH.set1 (v := .int (v + Int32.ofInt n)) hl.2 (by have := hl.2; simp only [List.length_cons] at this; omega) h1 (fun o h0 hz => by cases h0; exact ho)) hP hS)
theorem r_lstore_5 {a0 a1 a2 a3 a4 a5 a6 : Option Value} {T : List (Option Value)} {v : Int64} (d : decode M.2.1 pc = .ok (.lstore 5, 2)) (ho : oc1 a4 = true) (K : GW E Z M (pc + 2) (a0 :: a1 :: a2 :: a3 :: a4 :: some (.long v) :: none :: T) S σ) : GW E Z M pc (a0 :: a1 :: a2 :: a3 :: a4 :: a5 :: a6 :: T) (.long v :: S) σ := fun p e s m args below meth c H locs ls C hl hP hS => lv_lstore (lv := prs 0 (a0 :: a1 :: a2 :: a3 :: a4 :: a5 :: a6 :: T)) C.1 C.2.1 d hl.1 (by have := hl.2; simp only [List.length_cons] at this; omega) rfl (fun ls1 h1 => K p e s m args below meth c H locs ls1 C (LH.set2 hl.2 (by have := hl.2; simp only [List.length_cons] at this; omega) h1 (fun o h0 hz => by cases h0; exact ho)) hP hS)
theorem r_istore_6 {a0 a1 a2 a3 a4 a5 a6 : Option Value} {T : List (Option Value)} {v : Int32} (d : decode M.2.1 pc = .ok (.istore 6, 2)) (ho : oc1 a5 = true) (K : GW E Z M (pc + 2) (a0 :: a1 :: a2 :: a3 :: a4 :: a5 :: some (.int v) :: T) S σ) : GW E Z M pc (a0 :: a1 :: a2 :: a3 :: a4 :: a5 :: a6 :: T) (.int v :: S) σ := fun p e s m args below meth c H locs ls C hl hP hS => lv_istore (lv := prs 0 (a0 :: a1 :: a2 :: a3 :: a4 :: a5 :: a6 :: T)) C.1 C.2.1 d hl.1 (by have := hl.2; simp only [List.length_cons] at this; omega) rfl (fun ls1 h1 => K p e s m args below meth c H locs ls1 C (LH.set1 hl.2 (by have := hl.2; simp only [List.length_cons] at this; omega) h1 (fun o h0 hz => by cases h0; exact ho)) hP hS)
theorem r_astore_6 {a0 a1 a2 a3 a4 a5 a6 : Option Value} {T : List (Option Value)} {v : Nat} (d : decode M.2.1 pc = .ok (.astore 6, 2)) (ho : oc1 a5 = true) (K : GW E Z M (pc + 2) (a0 :: a1 :: a2 :: a3 :: a4 :: a5 :: some (.ref v) :: T) S σ) : GW E Z M pc (a0 :: a1 :: a2 :: a3 :: a4 :: a5 :: a6 :: T) (.ref v :: S) σ := fun p e s m args below meth c H locs ls C hl hP hS => lv_astore (lv := prs 0 (a0 :: a1 :: a2 :: a3 :: a4 :: a5 :: a6 :: T)) C.1 C.2.1 d hl.1 (by have := hl.2; simp only [List.length_cons] at this; omega) rfl (fun ls1 h1 => K p e s m args below meth c H locs ls1 C (LH.set1 hl.2 (by have := hl.2; simp only [List.length_cons] at this; omega) h1 (fun o h0 hz => by cases h0; exact ho)) hP hS)
theorem r_iinc_6 {a0 a1 a2 a3 a4 a5 : Option Value} {T : List (Option Value)} {v : Int32} {n : Int} (d : decode M.2.1 pc = .ok (.iinc 6 n, 3)) (ho : oc1 a5 = true) (K : GW E Z M (pc + 3) (a0 :: a1 :: a2 :: a3 :: a4 :: a5 :: some (.int (v + Int32.ofInt n)) :: T) S σ) : GW E Z M pc (a0 :: a1 :: a2 :: a3 :: a4 :: a5 :: some (.int v) :: T) S σ := fun p e s m args below meth c H locs ls C hl hP hS => by
  obtain ⟨k, hk⟩ := List.getElem?_of_mem ((prs_mem (a0 :: a1 :: a2 :: a3 :: a4 :: a5 :: some (.int v) :: T) 0 (6, .int v)).mpr ⟨6, rfl, rfl⟩)
  exact lv_iinc (lv := prs 0 (a0 :: a1 :: a2 :: a3 :: a4 :: a5 :: some (.int v) :: T)) C.1 C.2.1 d hl.1 hk rfl (by have := hl.2; simp only [List.length_cons] at this; omega) rfl (fun ls1 h1 => K p e s m args below meth c H locs ls1 C (LH.set1 (v := .int (v + Int32.ofInt n)) hl.2 (by have := hl.2; simp only [List.length_cons] at this; omega) h1 (fun o h0 hz => by cases h0; exact ho)) hP hS)
theorem r_lstore_6 {a0 a1 a2 a3 a4 a5 a6 a7 : Option Value} {T : List (Option Value)} {v : Int64} (d : decode M.2.1 pc = .ok (.lstore 6, 2)) (ho : oc1 a5 = true) (K : GW E Z M (pc + 2) (a0 :: a1 :: a2 :: a3 :: a4 :: a5 :: some (.long v) :: none :: T) S σ) : GW E Z M pc (a0 :: a1 :: a2 :: a3 :: a4 :: a5 :: a6 :: a7 :: T) (.long v :: S) σ := fun p e s m args below meth c H locs ls C hl hP hS => lv_lstore (lv := prs 0 (a0 :: a1 :: a2 :: a3 :: a4 :: a5 :: a6 :: a7 :: T)) C.1 C.2.1 d hl.1 (by have := hl.2; simp only [List.length_cons] at this; omega) rfl (fun ls1 h1 => K p e s m args below meth c H locs ls1 C (LH.set2 hl.2 (by have := hl.2; simp only [List.length_cons] at this; omega) h1 (fun o h0 hz => by cases h0; exact ho)) hP hS)
theorem r_istore_7 {a0 a1 a2 a3 a4 a5 a6 a7 : Option Value} {T : List (Option Value)} {v : Int32} (d : decode M.2.1 pc = .ok (.istore 7, 2)) (ho : oc1 a6 = true) (K : GW E Z M (pc + 2) (a0 :: a1 :: a2 :: a3 :: a4 :: a5 :: a6 :: some (.int v) :: T) S σ) : GW E Z M pc (a0 :: a1 :: a2 :: a3 :: a4 :: a5 :: a6 :: a7 :: T) (.int v :: S) σ := fun p e s m args below meth c H locs ls C hl hP hS => lv_istore (lv := prs 0 (a0 :: a1 :: a2 :: a3 :: a4 :: a5 :: a6 :: a7 :: T)) C.1 C.2.1 d hl.1 (by have := hl.2; simp only [List.length_cons] at this; omega) rfl (fun ls1 h1 => K p e s m args below meth c H locs ls1 C (LH.set1 hl.2 (by have := hl.2; simp only [List.length_cons] at this; omega) h1 (fun o h0 hz => by cases h0; exact ho)) hP hS)
theorem r_astore_7 {a0 a1 a2 a3 a4 a5 a6 a7 : Option Value} {T : List (Option Value)} {v : Nat} (d : decode M.2.1 pc = .ok (.astore 7, 2)) (ho : oc1 a6 = true) (K : GW E Z M (pc + 2) (a0 :: a1 :: a2 :: a3 :: a4 :: a5 :: a6 :: some (.ref v) :: T) S σ) : GW E Z M pc (a0 :: a1 :: a2 :: a3 :: a4 :: a5 :: a6 :: a7 :: T) (.ref v :: S) σ := fun p e s m args below meth c H locs ls C hl hP hS => lv_astore (lv := prs 0 (a0 :: a1 :: a2 :: a3 :: a4 :: a5 :: a6 :: a7 :: T)) C.1 C.2.1 d hl.1 (by have := hl.2; simp only [List.length_cons] at this; omega) rfl (fun ls1 h1 => K p e s m args below meth c H locs ls1 C (LH.set1 hl.2 (by have := hl.2; simp only [List.length_cons] at this; omega) h1 (fun o h0 hz => by cases h0; exact ho)) hP hS)
theorem r_iinc_7 {a0 a1 a2 a3 a4 a5 a6 : Option Value} {T : List (Option Value)} {v : Int32} {n : Int} (d : decode M.2.1 pc = .ok (.iinc 7 n, 3)) (ho : oc1 a6 = true) (K : GW E Z M (pc + 3) (a0 :: a1 :: a2 :: a3 :: a4 :: a5 :: a6 :: some (.int (v + Int32.ofInt n)) :: T) S σ) : GW E Z M pc (a0 :: a1 :: a2 :: a3 :: a4 :: a5 :: a6 :: some (.int v) :: T) S σ := fun p e s m args below meth c H locs ls C hl hP hS => by
  obtain ⟨k, hk⟩ := List.getElem?_of_mem ((prs_mem (a0 :: a1 :: a2 :: a3 :: a4 :: a5 :: a6 :: some (.int v) :: T) 0 (7, .int v)).mpr ⟨7, rfl, rfl⟩)
  exact lv_iinc (lv := prs 0 (a0 :: a1 :: a2 :: a3 :: a4 :: a5 :: a6 :: some (.int v) :: T)) C.1 C.2.1 d hl.1 hk rfl (by have := hl.2; simp only [List.length_cons] at this; omega) rfl (fun ls1 h1 => K p e s m args below meth c H locs ls1 C (LH.set1 (v := .int (v + Int32.ofInt n)) hl.2 (by have := hl.2; simp only [List.length_cons] at this; omega) h1 (fun o h0 hz => by cases h0; exact ho)) hP hS)
theorem r_lstore_7 {a0 a1 a2 a3 a4 a5 a6 a7 a8 : Option Value} {T : List (Option Value)} {v : Int64} (d : decode M.2.1 pc = .ok (.lstore 7, 2)) (ho : oc1 a6 = true) (K : GW E Z M (pc + 2) (a0 :: a1 :: a2 :: a3 :: a4 :: a5 :: a6 :: some (.long v) :: none :: T) S σ) : GW E Z M pc (a0 :: a1 :: a2 :: a3 :: a4 :: a5 :: a6 :: a7 :: a8 :: T) (.long v :: S) σ := fun p e s m args below meth c H locs ls C hl hP hS => lv_lstore (lv := prs 0 (a0 :: a1 :: a2 :: a3 :: a4 :: a5 :: a6 :: a7 :: a8 :: T)) C.1 C.2.1 d hl.1 (by have := hl.2; simp only [List.length_cons] at this; omega) rfl (fun ls1 h1 => K p e s m args below meth c H locs ls1 C (LH.set2 hl.2 (by have := hl.2; simp only [List.length_cons] at this; omega) h1 (fun o h0 hz => by cases h0; exact ho)) hP hS)
theorem r_istore_8 {a0 a1 a2 a3 a4 a5 a6 a7 a8 : Option Value} {T : List (Option Value)} {v : Int32} (d : decode M.2.1 pc = .ok (.istore 8, 2)) (ho : oc1 a7 = true) (K : GW E Z M (pc + 2) (a0 :: a1 :: a2 :: a3 :: a4 :: a5 :: a6 :: a7 :: some (.int v) :: T) S σ) : GW E Z M pc (a0 :: a1 :: a2 :: a3 :: a4 :: a5 :: a6 :: a7 :: a8 :: T) (.int v :: S) σ := fun p e s m args below meth c H locs ls C hl hP hS => lv_istore (lv := prs 0 (a0 :: a1 :: a2 :: a3 :: a4 :: a5 :: a6 :: a7 :: a8 :: T)) C.1 C.2.1 d hl.1 (by have := hl.2; simp only [List.length_cons] at this; omega) rfl (fun ls1 h1 => K p e s m args below meth c H locs ls1 C (LH.set1 hl.2 (by have := hl.2; simp only [List.length_cons] at this; omega) h1 (fun o h0 hz => by cases h0; exact ho)) hP hS)
theorem r_astore_8 {a0 a1 a2 a3 a4 a5 a6 a7 a8 : Option Value} {T : List (Option Value)} {v : Nat} (d : decode M.2.1 pc = .ok (.astore 8, 2)) (ho : oc1 a7 = true) (K : GW E Z M (pc + 2) (a0 :: a1 :: a2 :: a3 :: a4 :: a5 :: a6 :: a7 :: some (.ref v) :: T) S σ) : GW E Z M pc (a0 :: a1 :: a2 :: a3 :: a4 :: a5 :: a6 :: a7 :: a8 :: T) (.ref v :: S) σ := fun p e s m args below meth c H locs ls C hl hP hS => lv_astore (lv := prs 0 (a0 :: a1 :: a2 :: a3 :: a4 :: a5 :: a6 :: a7 :: a8 :: T)) C.1 C.2.1 d hl.1 (by have := hl.2; simp only [List.length_cons] at this; omega) rfl (fun ls1 h1 => K p e s m args below meth c H locs ls1 C (LH.set1 hl.2 (by have := hl.2; simp only [List.length_cons] at this; omega) h1 (fun o h0 hz => by cases h0; exact ho)) hP hS)
theorem r_iinc_8 {a0 a1 a2 a3 a4 a5 a6 a7 : Option Value} {T : List (Option Value)} {v : Int32} {n : Int} (d : decode M.2.1 pc = .ok (.iinc 8 n, 3)) (ho : oc1 a7 = true) (K : GW E Z M (pc + 3) (a0 :: a1 :: a2 :: a3 :: a4 :: a5 :: a6 :: a7 :: some (.int (v + Int32.ofInt n)) :: T) S σ) : GW E Z M pc (a0 :: a1 :: a2 :: a3 :: a4 :: a5 :: a6 :: a7 :: some (.int v) :: T) S σ := fun p e s m args below meth c H locs ls C hl hP hS => by
  obtain ⟨k, hk⟩ := List.getElem?_of_mem ((prs_mem (a0 :: a1 :: a2 :: a3 :: a4 :: a5 :: a6 :: a7 :: some (.int v) :: T) 0 (8, .int v)).mpr ⟨8, rfl, rfl⟩)
  exact lv_iinc (lv := prs 0 (a0 :: a1 :: a2 :: a3 :: a4 :: a5 :: a6 :: a7 :: some (.int v) :: T)) C.1 C.2.1 d hl.1 hk rfl (by have := hl.2; simp only [List.length_cons] at this; omega) rfl (fun ls1 h1 => K p e s m args below meth c H locs ls1 C (LH.set1 (v := .int (v + Int32.ofInt n)) hl.2 (by have := hl.2; simp only [List.length_cons] at this; omega) h1 (fun o h0 hz => by cases h0; exact ho)) hP hS)
theorem r_lstore_8 {a0 a1 a2 a3 a4 a5 a6 a7 a8 a9 : Option Value} {T : List (Option Value)} {v : Int64} (d : decode M.2.1 pc = .ok (.lstore 8, 2)) (ho : oc1 a7 = true) (K : GW E Z M (pc + 2) (a0 :: a1 :: a2 :: a3 :: a4 :: a5 :: a6 :: a7 :: some (.long v) :: none :: T) S σ) : GW E Z M pc (a0 :: a1 :: a2 :: a3 :: a4 :: a5 :: a6 :: a7 :: a8 :: a9 :: T) (.long v :: S) σ := fun p e s m args below meth c H locs ls C hl hP hS => lv_lstore (lv := prs 0 (a0 :: a1 :: a2 :: a3 :: a4 :: a5 :: a6 :: a7 :: a8 :: a9 :: T)) C.1 C.2.1 d hl.1 (by have := hl.2; simp only [List.length_cons] at this; omega) rfl (fun ls1 h1 => K p e s m args below meth c H locs ls1 C (LH.set2 hl.2 (by have := hl.2; simp only [List.length_cons] at this; omega) h1 (fun o h0 hz => by cases h0; exact ho)) hP hS)
theorem r_istore_9 {a0 a1 a2 a3 a4 a5 a6 a7 a8 a9 : Option Value} {T : List (Option Value)} {v : Int32} (d : decode M.2.1 pc = .ok (.istore 9, 2)) (ho : oc1 a8 = true) (K : GW E Z M (pc + 2) (a0 :: a1 :: a2 :: a3 :: a4 :: a5 :: a6 :: a7 :: a8 :: some (.int v) :: T) S σ) : GW E Z M pc (a0 :: a1 :: a2 :: a3 :: a4 :: a5 :: a6 :: a7 :: a8 :: a9 :: T) (.int v :: S) σ := fun p e s m args below meth c H locs ls C hl hP hS => lv_istore (lv := prs 0 (a0 :: a1 :: a2 :: a3 :: a4 :: a5 :: a6 :: a7 :: a8 :: a9 :: T)) C.1 C.2.1 d hl.1 (by have := hl.2; simp only [List.length_cons] at this; omega) rfl (fun ls1 h1 => K p e s m args below meth c H locs ls1 C (LH.set1 hl.2 (by have := hl.2; simp only [List.length_cons] at this; omega) h1 (fun o h0 hz => by cases h0; exact ho)) hP hS)
theorem r_astore_9 {a0 a1 a2 a3 a4 a5 a6 a7 a8 a9 : Option Value} {T : List (Option Value)} {v : Nat} (d : decode M.2.1 pc = .ok (.astore 9, 2)) (ho : oc1 a8 = true) (K : GW E Z M (pc + 2) (a0 :: a1 :: a2 :: a3 :: a4 :: a5 :: a6 :: a7 :: a8 :: some (.ref v) :: T) S σ) : GW E Z M pc (a0 :: a1 :: a2 :: a3 :: a4 :: a5 :: a6 :: a7 :: a8 :: a9 :: T) (.ref v :: S) σ := fun p e s m args below meth c H locs ls C hl hP hS => lv_astore (lv := prs 0 (a0 :: a1 :: a2 :: a3 :: a4 :: a5 :: a6 :: a7 :: a8 :: a9 :: T)) C.1 C.2.1 d hl.1 (by have := hl.2; simp only [List.length_cons] at this; omega) rfl (fun ls1 h1 => K p e s m args below meth c H locs ls1 C (LH.set1 hl.2 (by have := hl.2; simp only [List.length_cons] at this; omega) h1 (fun o h0 hz => by cases h0; exact ho)) hP hS)
theorem r_iinc_9 {a0 a1 a2 a3 a4 a5 a6 a7 a8 : Option Value} {T : List (Option Value)} {v : Int32} {n : Int} (d : decode M.2.1 pc = .ok (.iinc 9 n, 3)) (ho : oc1 a8 = true) (K : GW E Z M (pc + 3) (a0 :: a1 :: a2 :: a3 :: a4 :: a5 :: a6 :: a7 :: a8 :: some (.int (v + Int32.ofInt n)) :: T) S σ) : GW E Z M pc (a0 :: a1 :: a2 :: a3 :: a4 :: a5 :: a6 :: a7 :: a8 :: some (.int v) :: T) S σ := fun p e s m args below meth c H locs ls C hl hP hS => by
  obtain ⟨k, hk⟩ := List.getElem?_of_mem ((prs_mem (a0 :: a1 :: a2 :: a3 :: a4 :: a5 :: a6 :: a7 :: a8 :: some (.int v) :: T) 0 (9, .int v)).mpr ⟨9, rfl, rfl⟩)
  exact lv_iinc (lv := prs 0 (a0 :: a1 :: a2 :: a3 :: a4 :: a5 :: a6 :: a7 :: a8 :: some (.int v) :: T)) C.1 C.2.1 d hl.1 hk rfl (by have := hl.2; simp only [List.length_cons] at this; omega) rfl (fun ls1 h1 => K p e s m args below meth c H locs ls1 C (LH.set1 (v := .int (v + Int32.ofInt n)) hl.2 (by have := hl.2; simp only [List.length_cons] at this; omega) h1 (fun o h0 hz => by cases h0; exact ho)) hP hS)
theorem r_lstore_9 {a0 a1 a2 a3 a4 a5 a6 a7 a8 a9 a10 : Option Value} {T : List (Option Value)} {v : Int64} (d : decode M.2.1 pc = .ok (.lstore 9, 2)) (ho : oc1 a8 = true) (K : GW E Z M (pc + 2) (a0 :: a1 :: a2 :: a3 :: a4 :: a5 :: a6 :: a7 :: a8 :: some (.long v) :: none :: T) S σ) : GW E Z M pc (a0 :: a1 :: a2 :: a3 :: a4 :: a5 :: a6 :: a7 :: a8 :: a9 :: a10 :: T) (.long v :: S) σ := fun p e s m args below meth c H locs ls C hl hP hS => lv_lstore (lv := prs 0 (a0 :: a1 :: a2 :: a3 :: a4 :: a5 :: a6 :: a7 :: a8 :: a9 :: a10 :: T)) C.1 C.2.1 d hl.1 (by have := hl.2; simp only [List.length_cons] at this; omega) rfl (fun ls1 h1 => K p e s m args below meth c H locs ls1 C (LH.set2 hl.2 (by have := hl.2; simp only [List.length_cons] at this; omega) h1 (fun o h0 hz => by cases h0; exact ho)) hP hS)
theorem r_istore_10 {a0 a1 a2 a3 a4 a5 a6 a7 a8 a9 a10 : Option Value} {T : List (Option Value)} {v : Int32} (d : decode M.2.1 pc = .ok (.istore 10, 2)) (ho : oc1 a9 = true) (K : GW E Z M (pc + 2) (a0 :: a1 :: a2 :: a3 :: a4 :: a5 :: a6 :: a7 :: a8 :: a9 :: some (.int v) :: T) S σ) : GW E Z M pc (a0 :: a1 :: a2 :: a3 :: a4 :: a5 :: a6 :: a7 :: a8 :: a9 :: a10 :: T) (.int v :: S) σ := fun p e s m args below meth c H locs ls C hl hP hS => lv_istore (lv := prs 0 (a0 :: a1 :: a2 :: a3 :: a4 :: a5 :: a6 :: a7 :: a8 :: a9 :: a10 :: T)) C.1 C.2.1 d hl.1 (by have := hl.2; simp only [List.length_cons] at this; omega) rfl (fun ls1 h1 => K p e s m args below meth c H locs ls1 C (LH.set1 hl.2 (by have := hl.2; simp only [List.length_cons] at this; omega) h1 (fun o h0 hz => by cases h0; exact ho)) hP hS)
theorem r_astore_10 {a0 a1 a2 a3 a4 a5 a6 a7 a8 a9 a10 : Option Value} {T : List (Option Value)} {v : Nat} (d : decode M.2.1 pc = .ok (.astore 10, 2)) (ho : oc1 a9 = true) (K : GW E Z M (pc + 2) (a0 :: a1 :: a2 :: a3 :: a4 :: a5 :: a6 :: a7 :: a8 :: a9 :: some (.ref v) :: T) S σ) : GW E Z M pc (a0 :: a1 :: a2 :: a3 :: a4 :: a5 :: a6 :: a7 :: a8 :: a9 :: a10 :: T) (.ref v :: S) σ := fun p e s m args below meth c H locs ls C hl hP hS => lv_astore (lv := prs 0 (a0 :: a1 :: a2 :: a3 :: a4 :: a5 :: a6 :: a7 :: a8 :: a9 :: a10 :: T)) C.1 C.2.1 d hl.1 (by have := hl.2; simp only [List.length_cons] at this; omega) rfl (fun ls1 h1 => K p e s m args below meth c H locs ls1 C (LH.set1 hl.2 (by have := hl.2; simp only [List.length_cons] at this; omega) h1 (fun o h0 hz => by cases h0; exact ho)) hP hS)
theorem r_iinc_10 {a0 a1 a2 a3 a4 a5 a6 a7 a8 a9 : Option Value} {T : List (Option Value)} {v : Int32} {n : Int} (d : decode M.2.1 pc = .ok (.iinc 10 n, 3)) (ho : oc1 a9 = true) (K : GW E Z M (pc + 3) (a0 :: a1 :: a2 :: a3 :: a4 :: a5 :: a6 :: a7 :: a8 :: a9 :: some (.int (v + Int32.ofInt n)) :: T) S σ) : GW E Z M pc (a0 :: a1 :: a2 :: a3 :: a4 :: a5 :: a6 :: a7 :: a8 :: a9 :: some (.int v) :: T) S σ := fun p e s m args below meth c H locs ls C hl hP hS => by
  obtain ⟨k, hk⟩ := List.getElem?_of_mem ((prs_mem (a0 :: a1 :: a2 :: a3 :: a4 :: a5 :: a6 :: a7 :: a8 :: a9 :: some (.int v) :: T) 0 (10, .int v)).mpr ⟨10, rfl, rfl⟩)
  exact lv_iinc (lv := prs 0 (a0 :: a1 :: a2 :: a3 :: a4 :: a5 :: a6 :: a7 :: a8 :: a9 :: some (.int v) :: T)) C.1 C.2.1 d hl.1 hk rfl (by have := hl.2; simp only [List.length_cons] at this; omega) rfl (fun ls1 h1 => K p e s m args below meth c H locs ls1 C (LH.set1 (v := .int (v + Int32.ofInt n)) hl.2 (by have := hl.2; simp only [List.length_cons] at this; omega) h1 (fun o h0 hz => by cases h0; exact ho)) hP hS)
theorem r_lstore_10 {a0 a1 a2 a3 a4 a5 a6 a7 a8 a9 a10 a11 : Option Value} {T : List (Option Value)} {v : Int64} (d : decode M.2.1 pc = .ok (.lstore 10, 2)) (ho : oc1 a9 = true) (K : GW E Z M (pc + 2) (a0 :: a1 :: a2 :: a3 :: a4 :: a5 :: a6 :: a7 :: a8 :: a9 :: some (.long v) :: none :: T) S σ) : GW E Z M pc (a0 :: a1 :: a2 :: a3 :: a4 :: a5 :: a6 :: a7 :: a8 :: a9 :: a10 :: a11 :: T) (.long v :: S) σ := fun p e s m args below meth c H locs ls C hl hP hS => lv_lstore (lv := prs 0 (a0 :: a1 :: a2 :: a3 :: a4 :: a5 :: a6 :: a7 :: a8 :: a9 :: a10 :: a11 :: T)) C.1 C.2.1 d hl.1 (by have := hl.2; simp only [List.length_cons] at this; omega) rfl (fun ls1 h1 => K p e s m args below meth c H locs ls1 C (LH.set2 hl.2 (by have := hl.2; simp only [List.length_cons] at this; omega) h1 (fun o h0 hz => by cases h0; exact ho)) hP hS)
theorem r_istore_11 {a0 a1 a2 a3 a4 a5 a6 a7 a8 a9 a10 a11 : Option Value} {T : List (Option Value)} {v : Int32} (d : decode M.2.1 pc = .ok (.istore 11, 2)) (ho : oc1 a10 = true) (K : GW E Z M (pc + 2) (a0 :: a1 :: a2 :: a3 :: a4 :: a5 :: a6 :: a7 :: a8 :: a9 :: a10 :: some (.int v) :: T) S σ) : GW E Z M pc (a0 :: a1 :: a2 :: a3 :: a4 :: a5 :: a6 :: a7 :: a8 :: a9 :: a10 :: a11 :: T) (.int v :: S) σ := fun p e s m args below meth c H locs ls C hl hP hS => lv_istore (lv := prs 0 (a0 :: a1 :: a2 :: a3 :: a4 :: a5 :: a6 :: a7 :: a8 :: a9 :: a10 :: a11 :: T)) C.1 C.2.1 d hl.1 (by have := hl.2; simp only [List.length_cons] at this; omega) rfl (fun ls1 h1 => K p e s m args below meth c H locs ls1 C (LH.set1 hl.2 (by have := hl.2; simp only [List.length_cons] at this; omega) h1 (fun o h0 hz => by cases h0; exact ho)) hP hS)
theorem r_astore_11 {a0 a1 a2 a3 a4 a5 a6 a7 a8 a9 a10 a11 : Option Value} {T : List (Option Value)} {v : Nat} (d : decode M.2.1 pc = .ok (.astore 11, 2)) (ho : oc1 a10 = true) (K : GW E Z M (pc + 2) (a0 :: a1 :: a2 :: a3 :: a4 :: a5 :: a6 :: a7 :: a8 :: a9 :: a10 :: some (.ref v) :: T) S σ) : GW E Z M pc (a0 :: a1 :: a2 :: a3 :: a4 :: a5 :: a6 :: a7 :: a8 :: a9 :: a10 :: a11 :: T) (.ref v :: S) σ := fun p e s m args below meth c H locs ls C hl hP hS => lv_astore (lv := prs 0 (a0 :: a1 :: a2 :: a3 :: a4 :: a5 :: a6 :: a7 :: a8 :: a9 :: a10 :: a11 :: T)) C.1 C.2.1 d hl.1 (by have := hl.2; simp only [List.length_cons] at this; omega) rfl (fun ls1 h1 => K p e s m args below meth c H locs ls1 C (LH.set1 hl.2 (by have := hl.2; simp only [List.length_cons] at this; omega) h1 (fun o h0 hz => by cases h0; exact ho)) hP hS)
theorem r_iinc_11 {a0 a1 a2 a3 a4 a5 a6 a7 a8 a9 a10 : Option Value} {T : List (Option Value)} {v : Int32} {n : Int} (d : decode M.2.1 pc = .ok (.iinc 11 n, 3)) (ho : oc1 a10 = true) (K : GW E Z M (pc + 3) (a0 :: a1 :: a2 :: a3 :: a4 :: a5 :: a6 :: a7 :: a8 :: a9 :: a10 :: some (.int (v + Int32.ofInt n)) :: T) S σ) : GW E Z M pc (a0 :: a1 :: a2 :: a3 :: a4 :: a5 :: a6 :: a7 :: a8 :: a9 :: a10 :: some (.int v) :: T) S σ := fun p e s m args below meth c H locs ls C hl hP hS => by
  obtain ⟨k, hk⟩ := List.getElem?_of_mem ((prs_mem (a0 :: a1 :: a2 :: a3 :: a4 :: a5 :: a6 :: a7 :: a8 :: a9 :: a10 :: some (.int v) :: T) 0 (11, .int v)).mpr ⟨11, rfl, rfl⟩)
  exact lv_iinc (lv := prs 0 (a0 :: a1 :: a2 :: a3 :: a4 :: a5 :: a6 :: a7 :: a8 :: a9 :: a10 :: some (.int v) :: T)) C.1 C.2.1 d hl.1 hk rfl (by have := hl.2; simp only [List.length_cons] at this; omega) rfl (fun ls1 h1 => K p e s m args below meth c H locs ls1 C (LH.set1 (v := .int (v + Int32.ofInt n)) hl.2 (by have := hl.2; simp only [List.length_cons] at this; omega) h1 (fun o h0 hz => by cases h0; exact ho)) hP hS)
theorem r_lstore_11 {a0 a1 a2 a3 a4 a5 a6 a7 a8 a9 a10 a11 a12 : Option Value} {T : List (Option Value)} {v : Int64} (d : decode M.2.1 pc = .ok (.lstore 11, 2)) (ho : oc1 a10 = true) (K : GW E Z M (pc + 2) (a0 :: a1 :: a2 :: a3 :: a4 :: a5 :: a6 :: a7 :: a8 :: a9 :: a10 :: some (.long v) :: none :: T) S σ) : GW E Z M pc (a0 :: a1 :: a2 :: a3 :: a4 :: a5 :: a6 :: a7 :: a8 :: a9 :: a10 :: a11 :: a12 :: T) (.long v :: S) σ := fun p e s m args below meth c H locs ls C hl hP hS => lv_lstore (lv := prs 0 (a0 :: a1 :: a2 :: a3 :: a4 :: a5 :: a6 :: a7 :: a8 :: a9 :: a10 :: a11 :: a12 :: T)) C.1 C.2.1 d hl.1 (by have := hl.2; simp only [List.length_cons] at this; omega) rfl (fun ls1 h1 => K p e s m args below meth c H locs ls1 C (LH.set2 hl.2 (by have := hl.2; simp only [List.length_cons] at this; omega) h1 (fun o h0 hz => by cases h0; exact ho)) hP hS)
theorem r_istore_12 {a0 a1 a2 a3 a4 a5 a6 a7 a8 a9 a10 a11 a12 : Option Value} {T : List (Option Value)} {v : Int32} (d : decode M.2.1 pc = .ok (.istore 12, 2)) (ho : oc1 a11 = true) (K : GW E Z M (pc + 2) (a0 :: a1 :: a2 :: a3 :: a4 :: a5 :: a6 :: a7 :: a8 :: a9 :: a10 :: a11 :: some (.int v) :: T) S σ) : GW E Z M pc (a0 :: a1 :: a2 :: a3 :: a4 :: a5 :: a6 :: a7 :: a8 :: a9 :: a10 :: a11 :: a12 :: T) (.int v :: S) σ := fun p e s m args below meth c H locs ls C hl hP hS => lv_istore (lv := prs 0 (a0 :: a1 :: a2 :: a3 :: a4 :: a5 :: a6 :: a7 :: a8 :: a9 :: a10 :: a11 :: a12 :: T)) C.1 C.2.1 d hl.1 (by have := hl.2; simp only [List.length_cons] at this; omega) rfl (fun ls1 h1 => K p e s m args below meth c H locs ls1 C (LH.set1 hl.2 (by have := hl.2; simp only [List.length_cons] at this; omega) h1 (fun o h0 hz => by cases h0; exact ho)) hP hS)
theorem r_astore_12 {a0 a1 a2 a3 a4 a5 a6 a7 a8 a9 a10 a11 a12 : Option Value} {T : List (Option Value)} {v : Nat} (d : decode M.2.1 pc = .ok (.astore 12, 2)) (ho : oc1 a11 = true) (K : GW E Z M (pc + 2) (a0 :: a1 :: a2 :: a3 :: a4 :: a5 :: a6 :: a7 :: a8 :: a9 :: a10 :: a11 :: some (.ref v) :: T) S σ) : GW E Z M pc (a0 :: a1 :: a2 :: a3 :: a4 :: a5 :: a6 :: a7 :: a8 :: a9 :: a10 :: a11 :: a12 :: T) (.ref v :: S) σ := fun p e s m args below meth c H locs ls C hl hP hS => lv_astore (lv := prs 0 (a0 :: a1 :: a2 :: a3 :: a4 :: a5 :: a6 :: a7 :: a8 :: a9 :: a10 :: a11 :: a12 :: T)) C.1 C.2.1 d hl.1 (by have := hl.2; simp only [List.length_cons] at this; omega) rfl (fun ls1 h1 => K p e s m args below meth c H locs ls1 C (LH.set1 hl.2 (by have := hl.2; simp only [List.length_cons] at this; omega) h1 (fun o h0 hz => by cases h0; exact ho)) hP hS)
theorem r_iinc_12 {a0 a1 a2 a3 a4 a5 a6 a7 a8 a9 a10 a11 : Option Value} {T : List (Option Value)} {v : Int32} {n : Int} (d : decode M.2.1 pc = .ok (.iinc 12 n, 3)) (ho : oc1 a11 = true) (K : GW E Z M (pc + 3) (a0 :: a1 :: a2 :: a3 :: a4 :: a5 :: a6 :: a7 :: a8 :: a9 :: a10 :: a11 :: some (.int (v + Int32.ofInt n)) :: T) S σ) : GW E Z M pc (a0 :: a1 :: a2 :: a3 :: a4 :: a5 :: a6 :: a7 :: a8 :: a9 :: a10 :: a11 :: some (.int v) :: T) S σ := fun p e s m args below meth c H locs ls C hl hP hS => by
  obtain ⟨k, hk⟩ := List.getElem?_of_mem ((prs_mem (a0 :: a1 :: a2 :: a3 :: a4 :: a5 :: a6 :: a7 :: a8 :: a9 :: a10 :: a11 :: some (.int v) :: T) 0 (12, .int v)).mpr ⟨12, rfl, rfl⟩)
  exact lv_iinc (lv := prs 0 (a0 :: a1 :: a2 :: a3 :: a4 :: a5 :: a6 :: a7 :: a8 :: a9 :: a10 :: a11 :: some (.int v) :: T)) C.1 C.2.1 d hl.1 hk rfl (by have := hl.2; simp only [List.length_cons] at this; omega) rfl (fun ls1 h1 => K p e s m args below meth c H locs ls1 C (LH.set1 (v := .int (v + Int32.ofInt n)) hl.2 (by have := hl.2; simp only [List.length_cons] at this; omega) h1 (fun o h0 hz => by cases h0; exact ho)) hP hS)
theorem r_lstore_12 {a0 a1 a2 a3 a4 a5 a6 a7 a8 a9 a10 a11 a12 a13 : Option Value} {T : List (Option Value)} {v : Int64} (d : decode M.2.1 pc = .ok (.lstore 12, 2)) (ho : oc1 a11 = true) (K : GW E Z M (pc + 2) (a0 :: a1 :: a2 :: a3 :: a4 :: a5 :: a6 :: a7 :: a8 :: a9 :: a10 :: a11 :: some (.long v) :: none :: T) S σ) : GW E Z M pc (a0 :: a1 :: a2 :: a3 :: a4 :: a5 :: a6 :: a7 :: a8 :: a9 :: a10 :: a11 :: a12 :: a13 :: T) (.long v :: S) σ := fun p e s m args below meth c H locs ls C hl hP hS => lv_lstore (lv := prs 0 (a0 :: a1 :: a2 :: a3 :: a4 :: a5 :: a6 :: a7 :: a8 :: a9 :: a10 :: a11 :: a12 :: a13 :: T)) C.1 C.2.1 d hl.1 (by have := hl.2; simp only [List.length_cons] at this; omega) rfl (fun ls1 h1 => K p e s m args below meth c H locs ls1 C (LH.set2 hl.2 (by have := hl.2; simp only [List.length_cons] at this; omega) h1 (fun o h0 hz => by cases h0; exact ho)) hP hS)
theorem r_istore_13 {a0 a1 a2 a3 a4 a5 a6 a7 a8 a9 a10 a11 a12 a13 : Option Value} {T : List (Option Value)} {v : Int32} (d : decode M.2.1 pc = .ok (.istore 13, 2)) (ho : oc1 a12 = true) (K : GW E Z M (pc + 2) (a0 :: a1 :: a2 :: a3 :: a4 :: a5 :: a6 :: a7 :: a8 :: a9 :: a10 :: a11 :: a12 :: some (.int v) :: T) S σ) : GW E Z M pc (a0 :: a1 :: a2 :: a3 :: a4 :: a5 :: a6 :: a7 :: a8 :: a9 :: a10 :: a11 :: a12 :: a13 :: T) (.int v :: S) σ := fun p e s m args below meth c H locs ls C hl hP hS => lv_istore (lv := prs 0 (a0 :: a1 :: a2 :: a3 :: a4 :: a5 :: a6 :: a7 :: a8 :: a9 :: a10 :: a11 :: a12 :: a13 :: T)) C.1 C.2.1 d hl.1 (by have := hl.2; simp only [List.length_cons] at this; omega) rfl (fun ls1 h1 => K p e s m args below meth c H locs ls1 C (LH.set1 hl.2 (by have := hl.2; simp only [List.length_cons] at this; omega) h1 (fun o h0 hz => by cases h0; exact ho)) hP hS)
theorem r_astore_13 {a0 a1 a2 a3 a4 a5 a6 a7 a8 a9 a10 a11 a12 a13 : Option Value} {T : List (Option Value)} {v : Nat} (d : decode M.2.1 pc = .ok (.astore 13, 2)) (ho : oc1 a12 = true) (K : GW E Z M (pc + 2) (a0 :: a1 :: a2 :: a3 :: a4 :: a5 :: a6 :: a7 :: a8 :: a9 :: a10 :: a11 :: a12 :: some (.ref v) :: T) S σ) : GW E Z M pc (a0 :: a1 :: a2 :: a3 :: a4 :: a5 :: a6 :: a7 :: a8 :: a9 :: a10 :: a11 :: a12 :: a13 :: T) (.ref v :: S) σ := fun p e s m args below meth c H locs ls C hl hP hS => lv_astore (lv := prs 0 (a0 :: a1 :: a2 :: a3 :: a4 :: a5 :: a6 :: a7 :: a8 :: a9 :: a10 :: a11 :: a12 :: a13 :: T)) C.1 C.2.1 d hl.1 (by have := hl.2; simp only [List.length_cons] at this; omega) rfl (fun ls1 h1 => K p e s m args below meth c H locs ls1 C (LH.set1 hl.2 (by have := hl.2; simp only [List.length_cons] at this; omega) h1 (fun o h0 hz => by cases h0; exact ho)) hP hS)
theorem r_iinc_13 {a0 a1 a2 a3 a4 a5 a6 a7 a8 a9 a10 a11 a12 : Option Value} {T : List (Option Value)} {v : Int32} {n : Int} (d : decode M.2.1 pc = .ok (.iinc 13 n, 3)) (ho : oc1 a12 = true) (K : GW E Z M (pc + 3) (a0 :: a1 :: a2 :: a3 :: a4 :: a5 :: a6 :: a7 :: a8 :: a9 :: a10 :: a11 :: a12 :: some (.int (v + Int32.ofInt n)) :: T) S σ) : GW E Z M pc (a0 :: a1 :: a2 :: a3 :: a4 :: a5 :: a6 :: a7 :: a8 :: a9 :: a10 :: a11 :: a12 :: some (.int v) :: T) S σ := fun p e s m args below meth c H locs ls C hl hP hS => by
  obtain ⟨k, hk⟩ := List.getElem?_of_mem ((prs_mem (a0 :: a1 :: a2 :: a3 :: a4 :: a5 :: a6 :: a7 :: a8 :: a9 :: a10 :: a11 :: a12 :: some (.int v) :: T) 0 (13, .int v)).mpr ⟨13, rfl, rfl⟩)
  exact lv_iinc (lv := prs 0 (a0 :: a1 :: a2 :: a3 :: a4 :: a5 :: a6 :: a7 :: a8 :: a9 :: a10 :: a11 :: a12 :: some (.int v) :: T)) C.1 C.2.1 d hl.1 hk rfl (by have := hl.2; simp only [List.length_cons] at this; omega) rfl (fun ls1 h1 => K p e s m args below meth c H locs ls1 C (LH.set1 (v := .int (v + Int32.ofInt n)) hl.2 (by have := hl.2; simp only [List.length_cons] at this; omega) h1 (fun o h0 hz => by cases h0; exact ho)) hP hS)
theorem r_lstore_13 {a0 a1 a2 a3 a4 a5 a6 a7 a8 a9 a10 a11 a12 a13 a14 : Option Value} {T : List (Option Value)} {v : Int64} (d : decode M.2.1 pc = .ok (.lstore 13, 2)) (ho : oc1 a12 = true) (K : GW E Z M (pc + 2) (a0 :: a1 :: a2 :: a3 :: a4 :: a5 :: a6 :: a7 :: a8 :: a9 :: a10 :: a11 :: a12 :: some (.long v) :: none :: T) S σ) : GW E Z M pc (a0 :: a1 :: a2 :: a3 :: a4 :: a5 :: a6 :: a7 :: a8 :: a9 :: a10 :: a11 :: a12 :: a13 :: a14 :: T) (.long v :: S) σ := fun p e s m args below meth c H locs ls C hl hP hS => lv_lstore (lv := prs 0 (a0 :: a1 :: a2 :: a3 :: a4 :: a5 :: a6 :: a7 :: a8 :: a9 :: a10 :: a11 :: a12 :: a13 :: a14 :: T)) C.1 C.2.1 d hl.1 (by have := hl.2; simp only [List.length_cons] at this; omega) rfl (fun ls1 h1 => K p e s m args below meth c H locs ls1 C (LH.set2 hl.2 (by have := hl.2; simp only [List.length_cons] at this; omega) h1 (fun o h0 hz => by cases h0; exact ho)) hP hS)
theorem r_istore_14 {a0 a1 a2 a3 a4 a5 a6 a7 a8 a9 a10 a11 a12 a13 a14 : Option Value} {T : List (Option Value)} {v : Int32} (d : decode M.2.1 pc = .ok (.istore 14, 2)) (ho : oc1 a13 = true) (K : GW E Z M (pc + 2) (a0 :: a1 :: a2 :: a3 :: a4 :: a5 :: a6 :: a7 :: a8 :: a9 :: a10 :: a11 :: a12 :: a13 :: some (.int v) :: T) S σ) : GW E Z M pc (a0 :: a1 :: a2 :: a3 :: a4 :: a5 :: a6 :: a7 :: a8 :: a9 :: a10 :: a11 :: a12 :: a13 :: a14 :: T) (.int v :: S) σ := fun p e s m args below meth c H locs ls C hl hP hS => lv_istore (lv := prs 0 (a0 :: a1 :: a2 :: a3 :: a4 :: a5 :: a6 :: a7 :: a8 :: a9 :: a10 :: a11 :: a12 :: a13 :: a14 :: T)) C.1 C.2.1 d hl.1 (by have := hl.2; simp only [List.length_cons] at this; omega) rfl (fun ls1 h1 => K p e s m args below meth c H locs ls1 C (LH.set1 hl.2 (by have := hl.2; simp only [List.length_cons] at this; omega) h1 (fun o h0 hz => by cases h0; exact ho)) hP hS)
theorem r_astore_14 {a0 a1 a2 a3 a4 a5 a6 a7 a8 a9 a10 a11 a12 a13 a14 : Option Value} {T : List (Option Value)} {v : Nat} (d : decode M.2.1 pc = .ok (.astore 14, 2)) (ho : oc1 a13 = true) (K : GW E Z M (pc + 2) (a0 :: a1 :: a2 :: a3 :: a4 :: a5 :: a6 :: a7 :: a8 :: a9 :: a10 :: a11 :: a12 :: a13 :: some (.ref v) :: T) S σ) : GW E Z M pc (a0 :: a1 :: a2 :: a3 :: a4 :: a5 :: a6 :: a7 :: a8 :: a9 :: a10 :: a11 :: a12 :: a13 :: a14 :: T) (.ref v :: S) σ := fun p e s m args below meth c H locs ls C hl hP hS => lv_astore (lv := prs 0 (a0 :: a1 :: a2 :: a3 :: a4 :: a5 :: a6 :: a7 :: a8 :: a9 :: a10 :: a11 :: a12 :: a13 :: a14 :: T)) C.1 C.2.1 d hl.1 (by have := hl.2; simp only [List.length_cons] at this; omega) rfl (fun ls1 h1 => K p e s m args below meth c H locs ls1 C (LH.set1 hl.2 (by have := hl.2; simp only [List.length_cons] at this; omega) h1 (fun o h0 hz => by cases h0; exact ho)) hP hS)
theorem r_iinc_14 {a0 a1 a2 a3 a4 a5 a6 a7 a8 a9 a10 a11 a12 a13 : Option Value} {T : List (Option Value)} {v : Int32} {n : Int} (d : decode M.2.1 pc = .ok (.iinc 14 n, 3)) (ho : oc1 a13 = true) (K : GW E Z M (pc + 3) (a0 :: a1 :: a2 :: a3 :: a4 :: a5 :: a6 :: a7 :: a8 :: a9 :: a10 :: a11 :: a12 :: a13 :: some (.int (v + Int32.ofInt n)) :: T) S σ) : GW E Z M pc (a0 :: a1 :: a2 :: a3 :: a4 :: a5 :: a6 :: a7 :: a8 :: a9 :: a10 :: a11 :: a12 :: a13 :: some (.int v) :: T) S σ := fun p e s m args below meth c H locs ls C hl hP hS => by
  obtain ⟨k, hk⟩ := List.getElem?_of_mem ((prs_mem (a0 :: a1 :: a2 :: a3 :: a4 :: a5 :: a6 :: a7 :: a8 :: a9 :: a10 :: a11 :: a12 :: a13 :: some (.int v) :: T) 0 (14, .int v)).mpr ⟨14, rfl, rfl⟩)
  exact lv_iinc (lv := prs 0 (a0 :: a1 :: a2 :: a3 :: a4 :: a5 :: a6 :: a7 :: a8 :: a9 :: a10 :: a11 :: a12 :: a13 :: some (.int v) :: T)) C.1 C.2.1 d hl.1 hk rfl (by have := hl.2; simp only [List.length_cons] at this; omega) rfl (fun ls1 h1 => K p e s m args below meth c H locs ls1 C (LH.set1 (v := .int (v + Int32.ofInt n)) hl.2 (by have := hl.2; simp only [List.length_cons] at this; omega) h1 (fun o h0 hz => by cases h0; exact ho)) hP hS)
theorem r_lstore_14 {a0 a1 a2 a3 a4 a5 a6 a7 a8 a9 a10 a11 a12 a13 a14 a15 : Option Value} {T : List (Option Value)} {v : Int64} (d : decode M.2.1 pc = .ok (.lstore 14, 2)) (ho : oc1 a13 = true) (K : GW E Z M (pc + 2) (a0 :: a1 :: a2 :: a3 :: a4 :: a5 :: a6 :: a7 :: a8 :: a9 :: a10 :: a11 :: a12 :: a13 :: some (.long v) :: none :: T) S σ) : GW E Z M pc (a0 :: a1 :: a2 :: a3 :: a4 :: a5 :: a6 :: a7 :: a8 :: a9 :: a10 :: a11 :: a12 :: a13 :: a14 :: a15 :: T) (.long v :: S) σ := fun p e s m args below meth c H locs ls C hl hP hS => lv_lstore (lv := prs 0 (a0 :: a1 :: a2 :: a3 :: a4 :: a5 :: a6 :: a7 :: a8 :: a9 :: a10 :: a11 :: a12 :: a13 :: a14 :: a15 :: T)) C.1 C.2.1 d hl.1 (by have := hl.2; simp only [List.length_cons] at this; omega) rfl (fun ls1 h1 => K p e s m args below meth c H locs ls1 C (LH.set2 hl.2 (by have := hl.2; simp only [List.length_cons] at this; omega) h1 (fun o h0 hz => by cases h0; exact ho)) hP hS)
theorem r_istore_15 {a0 a1 a2 a3 a4 a5 a6 a7 a8 a9 a10 a11 a12 a13 a14 a15 : Option Value} {T : List (Option Value)} {v : Int32} (d : decode M.2.1 pc = .ok (.istore 15, 2)) (ho : oc1 a14 = true) (K : GW E Z M (pc + 2) (a0 :: a1 :: a2 :: a3 :: a4 :: a5 :: a6 :: a7 :: a8 :: a9 :: a10 :: a11 :: a12 :: a13 :: a14 :: some (.int v) :: T) S σ) : GW E Z M pc (a0 :: a1 :: a2 :: a3 :: a4 :: a5 :: a6 :: a7 :: a8 :: a9 :: a10 :: a11 :: a12 :: a13 :: a14 :: a15 :: T) (.int v :: S) σ := fun p e s m args below meth c H locs ls C hl hP hS => lv_istore (lv := prs 0 (a0 :: a1 :: a2 :: a3 :: a4 :: a5 :: a6 :: a7 :: a8 :: a9 :: a10 :: a11 :: a12 :: a13 :: a14 :: a15 :: T)) C.1 C.2.1 d hl.1 (by have := hl.2; simp only [List.length_cons] at this; omega) rfl (fun ls1 h1 => K p e s m args below meth c H locs ls1 C (LH.set1 hl.2 (by have := hl.2; simp only [List.length_cons] at this; omega) h1 (fun o h0 hz => by cases h0; exact ho)) hP hS)
theorem r_astore_15 {a0 a1 a2 a3 a4 a5 a6 a7 a8 a9 a10 a11 a12 a13 a14 a15 : Option Value} {T : List (Option Value)} {v : Nat} (d : decode M.2.1 pc = .ok (.astore 15, 2)) (ho : oc1 a14 = true) (K : GW E Z M (pc + 2) (a0 :: a1 :: a2 :: a3 :: a4 :: a5 :: a6 :: a7 :: a8 :: a9 :: a10 :: a11 :: a12 :: a13 :: a14 :: some (.ref v) :: T) S σ) : GW E Z M pc (a0 :: a1 :: a2 :: a3 :: a4 :: a5 :: a6 :: a7 :: a8 :: a9 :: a10 :: a11 :: a12 :: a13 :: a14 :: a15 :: T) (.ref v :: S) σ := fun p e s m args below meth c H locs ls C hl hP hS => lv_astore (lv := prs 0 (a0 :: a1 :: a2 :: a3 :: a4 :: a5 :: a6 :: a7 :: a8 :: a9 :: a10 :: a11 :: a12 :: a13 :: a14 :: a15 :: T)) C.1 C.2.1 d hl.1 (by have := hl.2; simp only [List.length_cons] at this; omega) rfl (fun ls1 h1 => K p e s m args below meth c H locs ls1 C (LH.set1 hl.2 (by have := hl.2; simp only [List.length_cons] at this; omega) h1 (fun o h0 hz => by cases h0; exact ho)) hP hS)
theorem r_iinc_15 {a0 a1 a2 a3 a4 a5 a6 a7 a8 a9 a10 a11 a12 a13 a14 : Option Value} {T : List (Option Value)} {v : Int32} {n : Int} (d : decode M.2.1 pc = .ok (.iinc 15 n, 3)) (ho : oc1 a14 = true) (K : GW E Z M (pc + 3) (a0 :: a1 :: a2 :: a3 :: a4 :: a5 :: a6 :: a7 :: a8 :: a9 :: a10 :: a11 :: a12 :: a13 :: a14 :: some (.int (v + Int32.ofInt n)) :: T) S σ) : GW E Z M pc (a0 :: a1 :: a2 :: a3 :: a4 :: a5 :: a6 :: a7 :: a8 :: a9 :: a10 :: a11 :: a12 :: a13 :: a14 :: some (.int v) :: T) S σ := fun p e s m args below meth c H locs ls C hl hP hS => by
  obtain ⟨k, hk⟩ := List.getElem?_of_mem ((prs_mem (a0 :: a1 :: a2 :: a3 :: a4 :: a5 :: a6 :: a7 :: a8 :: a9 :: a10 :: a11 :: a12 :: a13 :: a14 :: some (.int v) :: T) 0 (15, .int v)).mpr ⟨15, rfl, rfl⟩)
  exact lv_iinc (lv := prs 0 (a0 :: a1 :: a2 :: a3 :: a4 :: a5 :: a6 :: a7 :: a8 :: a9 :: a10 :: a11 :: a12 :: a13 :: a14 :: some (.int v) :: T)) C.1 C.2.1 d hl.1 hk rfl (by have := hl.2; simp only [List.length_cons] at this; omega) rfl (fun ls1 h1 => K p e s m args below meth c H locs ls1 C (LH.set1 (v := .int (v + Int32.ofInt n)) hl.2 (by have := hl.2; simp only [List.length_cons] at this; omega) h1 (fun o h0 hz => by cases h0; exact ho)) hP hS)
theorem r_lstore_15 {a0 a1 a2 a3 a4 a5 a6 a7 a8 a9 a10 a11 a12 a13 a14 a15 a16 : Option Value} {T : List (Option Value)} {v : Int64} (d : decode M.2.1 pc = .ok (.lstore 15, 2)) (ho : oc1 a14 = true) (K : GW E Z M (pc + 2) (a0 :: a1 :: a2 :: a3 :: a4 :: a5 :: a6 :: a7 :: a8 :: a9 :: a10 :: a11 :: a12 :: a13 :: a14 :: some (.long v) :: none :: T) S σ) : GW E Z M pc (a0 :: a1 :: a2 :: a3 :: a4 :: a5 :: a6 :: a7 :: a8 :: a9 :: a10 :: a11 :: a12 :: a13 :: a14 :: a15 :: a16 :: T) (.long v :: S) σ := fun p e s m args below meth c H locs ls C hl hP hS => lv_lstore (lv := prs 0 (a0 :: a1 :: a2 :: a3 :: a4 :: a5 :: a6 :: a7 :: a8 :: a9 :: a10 :: a11 :: a12 :: a13 :: a14 :: a15 :: a16 :: T)) C.1 C.2.1 d hl.1 (by have := hl.2; simp only [List.length_cons] at this; omega) rfl (fun ls1 h1 => K p e s m args below meth c H locs ls1 C (LH.set2 hl.2 (by have := hl.2; simp only [List.length_cons] at this; omega) h1 (fun o h0 hz => by cases h0; exact ho)) hP hS)
theorem r_istore_16 {a0 a1 a2 a3 a4 a5 a6 a7 a8 a9 a10 a11 a12 a13 a14 a15 a16 : Option Value} {T : List (Option Value)} {v : Int32} (d : decode M.2.1 pc = .ok (.istore 16, 2)) (ho : oc1 a15 = true) (K : GW E Z M (pc + 2) (a0 :: a1 :: a2 :: a3 :: a4 :: a5 :: a6 :: a7 :: a8 :: a9 :: a10 :: a11 :: a12 :: a13 :: a14 :: a15 :: some (.int v) :: T) S σ) : GW E Z M pc (a0 :: a1 :: a2 :: a3 :: a4 :: a5 :: a6 :: a7 :: a8 :: a9 :: a10 :: a11 :: a12 :: a13 :: a14 :: a15 :: a16 :: T) (.int v :: S) σ := fun p e s m args below meth c H locs ls C hl hP hS => lv_istore (lv := prs 0 (a0 :: a1 :: a2 :: a3 :: a4 :: a5 :: a6 :: a7 :: a8 :: a9 :: a10 :: a11 :: a12 :: a13 :: a14 :: a15 :: a16 :: T)) C.1 C.2.1 d hl.1 (by have := hl.2; simp only [List.length_cons] at this; omega) rfl (fun ls1 h1 => K p e s m args below meth c H locs ls1 C (LH.set1 hl.2 (by have := hl.2; simp only [List.length_cons] at this; omega) h1 (fun o h0 hz => by cases h0; exact ho)) hP hS)
theorem r_astore_16 {a0 a1 a2 a3 a4 a5 a6 a7 a8 a9 a10 a11 a12 a13 a14 a15 a16 : Option Value} {T : List (Option Value)} {v : Nat} (d : decode M.2.1 pc = .ok (.astore 16, 2)) (ho : oc1 a15 = true) (K : GW E Z M (pc + 2) (a0 :: a1 :: a2 :: a3 :: a4 :: a5 :: a6 :: a7 :: a8 :: a9 :: a10 :: a11 :: a12 :: a13 :: a14 :: a15 :: some (.ref v) :: T) S σ) : GW E Z M pc (a0 :: a1 :: a2 :: a3 :: a4 :: a5 :: a6 :: a7 :: a8 :: a9 :: a10 :: a11 :: a12 :: a13 :: a14 :: a15 :: a16 :: T) (.ref v :: S) σ := fun p e s m args below meth c H locs ls C hl hP hS => lv_astore (lv := prs 0 (a0 :: a1 :: a2 :: a3 :: a4 :: a5 :: a6 :: a7 :: a8 :: a9 :: a10 :: a11 :: a12 :: a13 :: a14 :: a15 :: a16 :: T)) C.1 C.2.1 d hl.1 (by have := hl.2; simp only [List.length_cons] at this; omega) rfl (fun ls1 h1 => K p e s m args below meth c H locs ls1 C (LH.set1 hl.2 (by have := hl.2; simp only [List.length_cons] at this; omega) h1 (fun o h0 hz => by cases h0; exact ho)) hP hS)
theorem r_iinc_16 {a0 a1 a2 a3 a4 a5 a6 a7 a8 a9 a10 a11 a12 a13 a14 a15 : Option Value} {T : List (Option Value)} {v : Int32} {n : Int} (d : decode M.2.1 pc = .ok (.iinc 16 n, 3)) (ho : oc1 a15 = true) (K : GW E Z M (pc + 3) (a0 :: a1 :: a2 :: a3 :: a4 :: a5 :: a6 :: a7 :: a8 :: a9 :: a10 :: a11 :: a12 :: a13 :: a14 :: a15 :: some (.int (v + Int32.ofInt n)) :: T) S σ) : GW E Z M pc (a0 :: a1 :: a2 :: a3 :: a4 :: a5 :: a6 :: a7 :: a8 :: a9 :: a10 :: a11 :: a12 :: a13 :: a14 :: a15 :: some (.int v) :: T) S σ := fun p e s m args below meth c H locs ls C hl hP hS => by
  obtain ⟨k, hk⟩ := List.getElem?_of_mem ((prs_mem (a0 :: a1 :: a2 :: a3 :: a4 :: a5 :: a6 :: a7 :: a8 :: a9 :: a10 :: a11 :: a12 :: a13 :: a14 :: a15 :: some (.int v) :: T) 0 (16, .int v)).mpr ⟨16, rfl, rfl⟩)
  exact lv_iinc (lv := prs 0 (a0 :: a1 :: a2 :: a3 :: a4 :: a5 :: a6 :: a7 :: a8 :: a9 :: a10 :: a11 :: a12 :: a13 :: a14 :: a15 :: some (.int v) :: T)) C.1 C.2.1 d hl.1 hk rfl (by have := hl.2; simp only [List.length_cons] at this; omega) rfl (fun ls1 h1 => K p e s m args below meth c H locs ls1 C (LH.set1 (v := .int (v + Int32.ofInt n)) hl.2 (by have := hl.2; simp only [List.length_cons] at this; omega) h1 (fun o h0 hz => by cases h0; exact ho)) hP hS)
theorem r_lstore_16 {a0 a1 a2 a3 a4 a5 a6 a7 a8 a9 a10 a11 a12 a13 a14 a15 a16 a17 : Option Value} {T : List (Option Value)} {v : Int64} (d : decode M.2.1 pc = .ok (.lstore 16, 2)) (ho : oc1 a15 = true) (K : GW E Z M (pc + 2) (a0 :: a1 :: a2 :: a3 :: a4 :: a5 :: a6 :: a7 :: a8 :: a9 :: a10 :: a11 :: a12 :: a13 :: a14 :: a15 :: some (.long v) :: none :: T) S σ) : GW E Z M pc (a0 :: a1 :: a2 :: a3 :: a4 :: a5 :: a6 :: a7 :: a8 :: a9 :: a10 :: a11 :: a12 :: a13 :: a14 :: a15 :: a16 :: a17 :: T) (.long v :: S) σ := fun p e s m args below meth c H locs ls C hl hP hS => lv_lstore (lv := prs 0 (a0 :: a1 :: a2 :: a3 :: a4 :: a5 :: a6 :: a7 :: a8 :: a9 :: a10 :: a11 :: a12 :: a13 :: a14 :: a15 :: a16 :: a17 :: T)) C.1 C.2.1 d hl.1 (by have := hl.2; simp only [List.length_cons] at this; omega) rfl (fun ls1 h1 => K p e s m args below meth c H locs ls1 C (LH.set2 hl.2 (by have := hl.2; simp only [List.length_cons] at this; omega) h1 (fun o h0 hz => by cases h0; exact ho)) hP hS)
theorem r_istore_17 {a0 a1 a2 a3 a4 a5 a6 a7 a8 a9 a10 a11 a12 a13 a14 a15 a16 a17 : Option Value} {T : List (Option Value)} {v : Int32} (d : decode M.2.1 pc = .ok (.istore 17, 2)) (ho : oc1 a16 = true) (K : GW E Z M (pc + 2) (a0 :: a1 :: a2 :: a3 :: a4 :: a5 :: a6 :: a7 :: a8 :: a9 :: a10 :: a11 :: a12 :: a13 :: a14 :: a15 :: a16 :: some (.int v) :: T) S σ) : GW E Z M pc (a0 :: a1 :: a2 :: a3 :: a4 :: a5 :: a6 :: a7 :: a8 :: a9 :: a10 :: a11 :: a12 :: a13 :: a14 :: a15 :: a16 :: a17 :: T) (.int v :: S) σ := fun p e s m args below meth c H locs ls C hl hP hS => lv_istore (lv := prs 0 (a0 :: a1 :: a2 :: a3 :: a4 :: a5 :: a6 :: a7 :: a8 :: a9 :: a10 :: a11 :: a12 :: a13 :: a14 :: a15 :: a16 :: a17 :: T)) C.1 C.2.1 d hl.1 (by have := hl.2; simp only [List.length_cons] at this; omega) rfl (fun ls1 h1 => K p e s m args below meth c H locs ls1 C (LH.set1 hl.2 (by have := hl.2; simp only [List.length_cons] at this; omega) h1 (fun o h0 hz => by cases h0; exact ho)) hP hS)
theorem r_astore_17 {a0 a1 a2 a3 a4 a5 a6 a7 a8 a9 a10 a11 a12 a13 a14 a15 a16 a17 : Option Value} {T : List (Option Value)} {v : Nat} (d : decode M.2.1 pc = .ok (.astore 17, 2)) (ho : oc1 a16 = true) (K : GW E Z M (pc + 2) (a0 :: a1 :: a2 :: a3 :: a4 :: a5 :: a6 :: a7 :: a8 :: a9 :: a10 :: a11 :: a12 :: a13 :: a14 :: a15 :: a16 :: some (.ref v) :: T) S σ) : GW E Z M pc (a0 :: a1 :: a2 :: a3 :: a4 :: a5 :: a6 :: a7 :: a8 :: a9 :: a10 :: a11 :: a12 :: a13 :: a14 :: a15 :: a16 :: a17 :: T) (.ref v :: S) σ := fun p e s m args below meth c H locs ls C hl hP hS => lv_astore (lv := prs 0 (a0 :: a1 :: a2 :: a3 :: a4 :: a5 :: a6 :: a7 :: a8 :: a9 :: a10 :: a11 :: a12 :: a13 :: a14 :: a15 :: a16 :: a17 :: T)) C.1 C.2.1 d hl.1 (by have := hl.2; simp only [List.length_cons] at this; omega) rfl (fun ls1 h1 => K p e s m args below meth c H locs ls1 C (LH.set1 hl.2 (by have := hl.2; simp only [List.length_cons] at this; omega) h1 (fun o h0 hz => by cases h0; exact ho)) hP hS)
theorem r_iinc_17 {a0 a1 a2 a3 a4 a5 a6 a7 a8 a9 a10 a11 a12 a13 a14 a15 a16 : Option Value} {T : List (Option Value)} {v : Int32} {n : Int} (d : decode M.2.1 pc = .ok (.iinc 17 n, 3)) (ho : oc1 a16 = true) (K : GW E Z M (pc + 3) (a0 :: a1 :: a2 :: a3 :: a4 :: a5 :: a6 :: a7 :: a8 :: a9 :: a10 :: a11 :: a12 :: a13 :: a14 :: a15 :: a16 :: some (.int (v + Int32.ofInt n)) :: T) S σ) : GW E Z M pc (a0 :: a1 :: a2 :: a3 :: a4 :: a5 :: a6 :: a7 :: a8 :: a9 :: a10 :: a11 :: a12 :: a13 :: a14 :: a15 :: a16 :: some (.int v) :: T) S σ := fun p e s m args below meth c H locs ls C hl hP hS => by
  obtain ⟨k, hk⟩ := List.getElem?_of_mem ((prs_mem (a0 :: a1 :: a2 :: a3 :: a4 :: a5 :: a6 :: a7 :: a8 :: a9 :: a10 :: a11 :: a12 :: a13 :: a14 :: a15 :: a16 :: some (.int v) :: T) 0 (17, .int v)).mpr ⟨17, rfl, rfl⟩)
  exact lv_iinc (lv := prs 0 (a0 :: a1 :: a2 :: a3 :: a4 :: a5 :: a6 :: a7 :: a8 :: a9 :: a10 :: a11 :: a12 :: a13 :: a14 :: a15 :: a16 :: some (.int v) :: T)) C.1 C.2.1 d hl.1 hk rfl (by have := hl.2; simp only [List.length_cons] at this; omega) rfl (fun ls1 h1 => K p e s m args below meth c H locs ls1 C (LH.set1 (v := .int (v + Int32.ofInt n)) hl.2 (by have := hl.2; simp only [List.length_cons] at this; omega) h1 (fun o h0 hz => by cases h0; exact ho)) hP hS)
theorem r_lstore_17 {a0 a1 a2 a3 a4 a5 a6 a7 a8 a9 a10 a11 a12 a13 a14 a15 a16 a17 a18 : Option Value} {T : List (Option Value)} {v : Int64} (d : decode M.2.1 pc = .ok (.lstore 17, 2)) (ho : oc1 a16 = true) (K : GW E Z M (pc + 2) (a0 :: a1 :: a2 :: a3 :: a4 :: a5 :: a6 :: a7 :: a8 :: a9 :: a10 :: a11 :: a12 :: a13 :: a14 :: a15 :: a16 :: some (.long v) :: none :: T) S σ) : GW E Z M pc (a0 :: a1 :: a2 :: a3 :: a4 :: a5 :: a6 :: a7 :: a8 :: a9 :: a10 :: a11 :: a12 :: a13 :: a14 :: a15 :: a16 :: a17 :: a18 :: T) (.long v :: S) σ := fun p e s m args below meth c H locs ls C hl hP hS => lv_lstore (lv := prs 0 (a0 :: a1 :: a2 :: a3 :: a4 :: a5 :: a6 :: a7 :: a8 :: a9 :: a10 :: a11 :: a12 :: a13 :: a14 :: a15 :: a16 :: a17 :: a18 :: T)) C.1 C.2.1 d hl.1 (by have := hl.2; simp only [List.length_cons] at this; omega) rfl (fun ls1 h1 => K p e s m args below meth c H locs ls1 C (LH.set2 hl.2 (by have := hl.2; simp only [List.length_cons] at this; omega) h1 (fun o h0 hz => by cases h0; exact ho)) hP hS)
theorem r_icmp_eq {x y : Int32} {off : Int} (tgt : Nat) (d : decode M.2.1 pc = .ok (.if_icmp .eq off, 3)) (ht : (pc : Int) + off = (tgt : Int)) (K1 : x = y → GW E Z M tgt L S σ) (K2 : ¬ x = y → GW E Z M (pc + 3) L S σ) : GW E Z M pc L (.int y :: .int x :: S) σ := fun p e s m args below meth c H locs ls C hl hP hS => lv_icmp_eq C.1 C.2.1 d ht (fun h => K1 h p e s m args below meth c H locs ls C hl hP hS) (fun h => K2 h p e s m args below meth c H locs ls C hl hP hS)
theorem r_if_eq {x : Int32} {off : Int} (tgt : Nat) (d : decode M.2.1 pc = .ok (.ifCond .eq off, 3)) (ht : (pc : Int) + off = (tgt : Int)) (K1 : x = 0 → GW E Z M tgt L S σ) (K2 : ¬ x = 0 → GW E Z M (pc + 3) L S σ) : GW E Z M pc L (.int x :: S) σ := fun p e s m args below meth c H locs ls C hl hP hS => lv_if_eq C.1 C.2.1 d ht (fun h => K1 h p e s m args below meth c H locs ls C hl hP hS) (fun h => K2 h p e s m args below meth c H locs ls C hl hP hS)
theorem r_icmp_ne {x y : Int32} {off : Int} (tgt : Nat) (d : decode M.2.1 pc = .ok (.if_icmp .ne off, 3)) (ht : (pc : Int) + off = (tgt : Int)) (K1 : ¬ x = y → GW E Z M tgt L S σ) (K2 : x = y → GW E Z M (pc + 3) L S σ) : GW E Z M pc L (.int y :: .int x :: S) σ := fun p e s m args below meth c H locs ls C hl hP hS => lv_icmp_ne C.1 C.2.1 d ht (fun h => K1 h p e s m args below meth c H locs ls C hl hP hS) (fun h => K2 h p e s m args below meth c H locs ls C hl hP hS)
theorem r_if_ne {x : Int32} {off : Int} (tgt : Nat) (d : decode M.2.1 pc = .ok (.ifCond .ne off, 3)) (ht : (pc : Int) + off = (tgt : Int)) (K1 : ¬ x = 0 → GW E Z M tgt L S σ) (K2 : x = 0 → GW E Z M (pc + 3) L S σ) : GW E Z M pc L (.int x :: S) σ := fun p e s m args below meth c H locs ls C hl hP hS => lv_if_ne C.1 C.2.1 d ht (fun h => K1 h p e s m args below meth c H locs ls C hl hP hS) (fun h => K2 h p e s m args below meth c H locs ls C hl hP hS)
theorem r_icmp_lt {x y : Int32} {off : Int} (tgt : Nat) (d : decode M.2.1 pc = .ok (.if_icmp .lt off, 3)) (ht : (pc : Int) + off = (tgt : Int)) (K1 : x < y → GW E Z M tgt L S σ) (K2 : ¬ x < y → GW E Z M (pc + 3) L S σ) : GW E Z M pc L (.int y :: .int x :: S) σ := fun p e s m args below meth c H locs ls C hl hP hS => lv_icmp_lt C.1 C.2.1 d ht (fun h => K1 h p e s m args below meth c H locs ls C hl hP hS) (fun h => K2 h p e s m args below meth c H locs ls C hl hP hS)
theorem r_if_lt {x : Int32} {off : Int} (tgt : Nat) (d : decode M.2.1 pc = .ok (.ifCond .lt off, 3)) (ht : (pc : Int) + off = (tgt : Int)) (K1 : x < 0 → GW E Z M tgt L S σ) (K2 : ¬ x < 0 → GW E Z M (pc + 3) L S σ) : GW E Z M pc L (.int x :: S) σ := fun p e s m args below meth c H locs ls C hl hP hS => lv_if_lt C.1 C.2.1 d ht (fun h => K1 h p e s m args below meth c H locs ls C hl hP hS) (fun h => K2 h p e s m args below meth c H locs ls C hl hP hS)
theorem r_icmp_ge {x y : Int32} {off : Int} (tgt : Nat) (d : decode M.2.1 pc = .ok (.if_icmp .ge off, 3)) (ht : (pc : Int) + off = (tgt : Int)) (K1 : y ≤ x → GW E Z M tgt L S σ) (K2 : ¬ y ≤ x → GW E Z M (pc + 3) L S σ) : GW E Z M pc L (.int y :: .int x :: S) σ := fun p e s m args below meth c H locs ls C hl hP hS => lv_icmp_ge C.1 C.2.1 d ht (fun h => K1 h p e s m args below meth c H locs ls C hl hP hS) (fun h => K2 h p e s m args below meth c H locs ls C hl hP hS)
theorem r_if_ge {x : Int32} {off : Int} (tgt : Nat) (d : decode M.2.1 pc = .ok (.ifCond .ge off, 3)) (ht : (pc : Int) + off = (tgt : Int)) (K1 : 0 ≤ x → GW E Z M tgt L S σ) (K2 : ¬ 0 ≤ x → GW E Z M (pc + 3) L S σ) : GW E Z M pc L (.int x :: S) σ := fun p e s m args below meth c H locs ls C hl hP hS => lv_if_ge C.1 C.2.1 d ht (fun h => K1 h p e s m args below meth c H locs ls C hl hP hS) (fun h => K2 h p e s m args below meth c H locs ls C hl hP hS)
theorem r_icmp_gt {x y : Int32} {off : Int} (tgt : Nat) (d : decode M.2.1 pc = .ok (.if_icmp .gt off, 3)) (ht : (pc : Int) + off = (tgt : Int)) (K1 : y < x → GW E Z M tgt L S σ) (K2 : ¬ y < x → GW E Z M (pc + 3) L S σ) : GW E Z M pc L (.int y :: .int x :: S) σ := fun p e s m args below meth c H locs ls C hl hP hS => lv_icmp_gt C.1 C.2.1 d ht (fun h => K1 h p e s m args below meth c H locs ls C hl hP hS) (fun h => K2 h p e s m args below meth c H locs ls C hl hP hS)
theorem r_if_gt {x : Int32} {off : Int} (tgt : Nat) (d : decode M.2.1 pc = .ok (.ifCond .gt off, 3)) (ht : (pc : Int) + off = (tgt : Int)) (K1 : 0 < x → GW E Z M tgt L S σ) (K2 : ¬ 0 < x → GW E Z M (pc + 3) L S σ) : GW E Z M pc L (.int x :: S) σ := fun p e s m args below meth c H locs ls C hl hP hS => lv_if_gt C.1 C.2.1 d ht (fun h => K1 h p e s m args below meth c H locs ls C hl hP hS) (fun h => K2 h p e s m args below meth c H locs ls C hl hP hS)
theorem r_icmp_le {x y : Int32} {off : Int} (tgt : Nat) (d : decode M.2.1 pc = .ok (.if_icmp .le off, 3)) (ht : (pc : Int) + off = (tgt : Int)) (K1 : x ≤ y → GW E Z M tgt L S σ) (K2 : ¬ x ≤ y → GW E Z M (pc + 3) L S σ) : GW E Z M pc L (.int y :: .int x :: S) σ := fun p e s m args below meth c H locs ls C hl hP hS => lv_icmp_le C.1 C.2.1 d ht (fun h => K1 h p e s m args below meth c H locs ls C hl hP hS) (fun h => K2 h p e s m args below meth c H locs ls C hl hP hS)
theorem r_if_le {x : Int32} {off : Int} (tgt : Nat) (d : decode M.2.1 pc = .ok (.ifCond .le off, 3)) (ht : (pc : Int) + off = (tgt : Int)) (K1 : x ≤ 0 → GW E Z M tgt L S σ) (K2 : ¬ x ≤ 0 → GW E Z M (pc + 3) L S σ) : GW E Z M pc L (.int x :: S) σ := fun p e s m args below meth c H locs ls C hl hP hS => lv_if_le C.1 C.2.1 d ht (fun h => K1 h p e s m args below meth c H locs ls C hl hP hS) (fun h => K2 h p e s m args below meth c H locs ls C hl hP hS)
theorem r_goto {off : Int} (tgt : Nat) (d : decode M.2.1 pc = .ok (.goto off, 3)) (ht : (pc : Int) + off = (tgt : Int)) (K : GW E Z M tgt L S σ) : GW E Z M pc L S σ := fun p e s m args below meth c H locs ls C hl hP hS => lv_goto C.1 C.2.1 d ht (K p e s m args below meth c H locs ls C hl hP hS)
theorem r_lookup {dflt : Int} {ps : Array (Int × Int)} {len : Nat} {x : Int32} (off : Int) (tgt : Nat) (d : decode M.2.1 pc = .ok (.lookupswitch dflt ps, len)) (hp : (ps.toList.zip (ps.toList.drop 1)).all (fun (a, next) => a.1 < next.1) = true) (ho : Op.lookupswitch.offset ps.toList dflt x.toInt = off) (ht : (pc : Int) + off = (tgt : Int)) (K : GW E Z M tgt L S σ) : GW E Z M pc L (.int x :: S) σ := fun p e s m args below meth c H locs ls C hl hP hS => lv_lookup C.1 C.2.1 d hp ho ht (K p e s m args below meth c H locs ls C hl hP hS)
theorem r_tableOut {dflt lo hi : Int} {offs : Array Int} {len : Nat} {x : Int32} (tgt : Nat) (d : decode M.2.1 pc = .ok (.tableswitch dflt lo hi offs, len)) (h : x.toInt < lo ∨ hi < x.toInt) (ht : (pc : Int) + dflt = (tgt : Int)) (K : GW E Z M tgt L S σ) : GW E Z M pc L (.int x :: S) σ := fun p e s m args below meth c H locs ls C hl hP hS => lv_tableOut C.1 C.2.1 d h ht (K p e s m args below meth c H locs ls C hl hP hS)
theorem r_tableIn {dflt lo hi : Int} {offs : Array Int} {len : Nat} {x : Int32} (off : Int) (tgt : Nat) (d : decode M.2.1 pc = .ok (.tableswitch dflt lo hi offs, len)) (h1 : ¬ x.toInt < lo) (h2 : ¬ hi < x.toInt) (ho : offs[(x.toInt - lo).toNat]? = some off) (ht : (pc : Int) + off = (tgt : Int)) (K : GW E Z M tgt L S σ) : GW E Z M pc L (.int x :: S) σ := fun p e s m args below meth c H locs ls C hl hP hS => lv_tableIn C.1 C.2.1 d h1 h2 ho ht (K p e s m args below meth c H locs ls C hl hP hS)
theorem r_ldc {index : Nat} {v : Int32} (hw : Cond.constant M.1.cls index v ∈ TB) (d : decode M.2.1 pc = .ok (.ldc index, 2)) (K : GW E Z M (pc + 2) L (.int v :: S) σ) : GW E Z M pc L S σ := fun p e s m args below meth c H locs ls C hl hP hS => lv_ldc C.1 C.2.1 C.2.2.2.2.2.1 (C.2.2.2.2.2.2.1 _ hw) d (K p e s m args below meth c H locs ls C hl hP hS)
theorem r_ldc_w {index : Nat} {v : Int32} (hw : Cond.constant M.1.cls index v ∈ TB) (d : decode M.2.1 pc = .ok (.ldc_w index, 3)) (K : GW E Z M (pc + 3) L (.int v :: S) σ) : GW E Z M pc L S σ := fun p e s m args below meth c H locs ls C hl hP hS => lv_ldcw C.1 C.2.1 C.2.2.2.2.2.1 (C.2.2.2.2.2.2.1 _ hw) d (K p e s m args below meth c H locs ls C hl hP hS)
theorem r_ldc2 {index : Nat} {v : Int64} (hw : Cond.constantLong M.1.cls index v ∈ TB) (d : decode M.2.1 pc = .ok (.ldc2_w index, 3)) (K : GW E Z M (pc + 3) L (.long v :: S) σ) : GW E Z M pc L S σ := fun p e s m args below meth c H locs ls C hl hP hS => lv_ldc2 C.1 C.2.1 C.2.2.2.2.2.1 (C.2.2.2.2.2.2.1 _ hw) d (K p e s m args below meth c H locs ls C hl hP hS)
theorem r_get {k i ci N index : Nat} {C0 : String} {T0 : u_T} {fs : List Value} {v : Value} (hk : (k, i) ∈ PL) (he : cel E σ k i = .inr (ci, fs)) (hc : vwCl[ci]? = some (C0, T0, N)) (j : Nat) (hj : j < N) (hin : ∀ w ∈ u_ws C0 T0 N, w ∈ TB) (hw : Cond.fieldLink M.1.cls index C0 (T0 j).2.1 (T0 j).2.2.1 ∈ TB) (hdc : (T0 j).1 = C0) (hv : fs[j]? = some v) (d : decode M.2.1 pc = .ok (.getfield index, 3)) (K : GW E Z M (pc + 3) L (v :: S) σ) : GW E Z M pc L (.ref (ad E k i) :: S) σ := fun p e s m args below meth c H locs ls C hl hP hS => by
  obtain ⟨q0, hq⟩ := List.getElem?_of_mem hk
  have h1 := wsx_get (E := E) (σ := σ) hq
  exact va_get (tys := tyl E) C.1 C.2.1 C.2.2.2.2.2.2.1 hin C.2.2.2.2.2.1 C.2.2.2.2.2.2.2.1.1 hP q0 (h1.trans (by show some (_, cel E σ k i) = _; rw [he])) hc j hj (C.2.2.2.2.2.2.1 _ hw) (fun x hx => by rw [hdc] at hx; exact hx) hv d (K p e s m args below meth c H locs ls C hl hP hS)
theorem r_getN {k i ci N index : Nat} {C0 host : String} {T0 : u_T} {fs : List Value} {v : Value} (hk : (k, i) ∈ PL) (he : cel E σ k i = .inr (ci, fs)) (hc : vwCl[ci]? = some (C0, T0, N)) (j : Nat) (hj : j < N) (hin : ∀ w ∈ u_ws C0 T0 N, w ∈ TB) (hw : Cond.fieldLinkNest M.1.cls index C0 (T0 j).2.1 (T0 j).2.2.1 host ∈ lw_tbl) (hdc : (T0 j).1 = C0) (hv : fs[j]? = some v) (d : decode M.2.1 pc = .ok (.getfield index, 3)) (K : GW E Z M (pc + 3) L (v :: S) σ) : GW E Z M pc L (.ref (ad E k i) :: S) σ := fun p e s m args below meth c H locs ls C hl hP hS => by
  obtain ⟨q0, hq⟩ := List.getElem?_of_mem hk
  have h1 := wsx_get (E := E) (σ := σ) hq
  exact va_getN (tys := tyl E) C.1 C.2.1 C.2.2.2.2.2.2.1 hin C.2.2.2.2.2.1 C.2.2.2.2.2.2.2.1.1 hP q0 (h1.trans (by show some (_, cel E σ k i) = _; rw [he])) hc j hj (va_Nw.use rfl (C.2.2.2.2.2.2.2.1.2.1 _ hw rfl)) (fun x hx => by rw [hdc] at hx; exact hx) hv d (K p e s m args below meth c H locs ls C hl hP hS)
theorem r_put {k i ci N index : Nat} {C0 : String} {T0 : u_T} {fs : List Value} {v : Value} {σ' : Sg} (hk : (k, i) ∈ PL) (he : cel E σ k i = .inr (ci, fs)) (hc : vwCl[ci]? = some (C0, T0, N)) (j : Nat) (hj : j < N) (hin : ∀ w ∈ u_ws C0 T0 N, w ∈ TB) (ty0 : Nat → FieldType) (hty : ∀ k, k < N → parseFieldDescriptor (T0 k).2.2.1 = some (ty0 k)) (hnm : ∀ a, a < N → ∀ b, b < N → a ≠ b → (T0 a).2.1 ≠ (T0 b).2.1) (hw : Cond.fieldLink M.1.cls index C0 (T0 j).2.1 (T0 j).2.2.1 ∈ TB) (hdc : (T0 j).1 = C0) (hfin : (T0 j).2.2.2 = false) (hn : narrow (ty0 j) v = v) (hfit : fits (ty0 j) v = true) (hl0 : j < fs.length) (hnew : cel E σ' k i = .inr (ci, fs.set j v)) (hoth : ∀ y, y ∈ PL → y ≠ (k, i) → cel E σ' y.1 y.2 = cel E σ y.1 y.2) (d : decode M.2.1 pc = .ok (.putfield index, 3)) (K : GW E Z M (pc + 3) L S σ') : GW E Z M pc L (v :: .ref (ad E k i) :: S) σ := fun p e s m args below meth c H locs ls C hl hP hS => by
  obtain ⟨q0, hq⟩ := List.getElem?_of_mem hk
  have h1 := wsx_get (E := E) (σ := σ) hq
  exact va_put (tys := tyl E) C.1 C.2.1 C.2.2.2.2.2.2.1 hin ty0 hty hnm C.2.2.2.2.2.1 C.2.2.2.2.2.2.2.1.1 hP (wsx_D C.2.2.2.2.2.2.2.2.2.1) hS q0 (h1.trans (by show some (_, cel E σ k i) = _; rw [he])) hc j hj (C.2.2.2.2.2.2.1 _ hw) (fun x hx => by rw [hdc] at hx; exact hx) hfin (hty j hj) hn hfit hl0 d (fun H1 locs1 hP1 hD1 hS1 => K p e s m args below meth c H1 locs1 ls C hl (wsx_set hq hP1 hnew hoth) hS1)
theorem r_putN {k i ci N index : Nat} {C0 host : String} {T0 : u_T} {fs : List Value} {v : Value} {σ' : Sg} (hk : (k, i) ∈ PL) (he : cel E σ k i = .inr (ci, fs)) (hc : vwCl[ci]? = some (C0, T0, N)) (j : Nat) (hj : j < N) (hin : ∀ w ∈ u_ws C0 T0 N, w ∈ TB) (ty0 : Nat → FieldType) (hty : ∀ k, k < N → parseFieldDescriptor (T0 k).2.2.1 = some (ty0 k)) (hnm : ∀ a, a < N → ∀ b, b < N → a ≠ b → (T0 a).2.1 ≠ (T0 b).2.1) (hw : Cond.fieldLinkNest M.1.cls index C0 (T0 j).2.1 (T0 j).2.2.1 host ∈ lw_tbl) (hdc : (T0 j).1 = C0) (hfin : (T0 j).2.2.2 = false) (hn : narrow (ty0 j) v = v) (hfit : fits (ty0 j) v = true) (hl0 : j < fs.length) (hnew : cel E σ' k i = .inr (ci, fs.set j v)) (hoth : ∀ y, y ∈ PL → y ≠ (k, i) → cel E σ' y.1 y.2 = cel E σ y.1 y.2) (d : decode M.2.1 pc = .ok (.putfield index, 3)) (K : GW E Z M (pc + 3) L S σ') : GW E Z M pc L (v :: .ref (ad E k i) :: S) σ := fun p e s m args below meth c H locs ls C hl hP hS => by
  obtain ⟨q0, hq⟩ := List.getElem?_of_mem hk
  have h1 := wsx_get (E := E) (σ := σ) hq
  exact va_putN (tys := tyl E) C.1 C.2.1 C.2.2.2.2.2.2.1 hin ty0 hty hnm C.2.2.2.2.2.1 C.2.2.2.2.2.2.2.1.1 hP (wsx_D C.2.2.2.2.2.2.2.2.2.1) hS q0 (h1.trans (by show some (_, cel E σ k i) = _; rw [he])) hc j hj (va_Nw.use rfl (C.2.2.2.2.2.2.2.1.2.1 _ hw rfl)) (fun x hx => by rw [hdc] at hx; exact hx) hfin (hty j hj) hn hfit hl0 d (fun H1 locs1 hP1 hD1 hS1 => K p e s m args below meth c H1 locs1 ls C hl (wsx_set hq hP1 hnew hoth) hS1)
theorem r_iald {k i n : Nat} {f : Nat → Int32} {j : Int32} (hk : (k, i) ∈ PL) (he : cel E σ k i = .inl (cA E 0, n, .inl f)) (hin : vp_in j n) (d : decode M.2.1 pc = .ok (.iaload, 1)) (K : GW E Z M (pc + 1) L (.int (f j.toNatClampNeg) :: S) σ) : GW E Z M pc L (.int j :: .ref (ad E k i) :: S) σ := fun p e s m args below meth c H locs ls C hl hP hS => by
  obtain ⟨q0, hq⟩ := List.getElem?_of_mem hk
  have h1 := wsx_get (E := E) (σ := σ) hq
  exact va_iald (tys := tyl E) C.1 C.2.1 C.2.2.2.2.2.2.2.1.1 hP q0 0 (h1.trans (by show some (_, cel E σ k i) = _; rw [he])) rfl hin d (K p e s m args below meth c H locs ls C hl hP hS)
theorem r_cald {k i n : Nat} {f : Nat → Int32} {j : Int32} (hk : (k, i) ∈ PL) (he : cel E σ k i = .inl (cA E 1, n, .inl f)) (hin : vp_in j n) (d : decode M.2.1 pc = .ok (.caload, 1)) (K : GW E Z M (pc + 1) L (.int (f j.toNatClampNeg) :: S) σ) : GW E Z M pc L (.int j :: .ref (ad E k i) :: S) σ := fun p e s m args below meth c H locs ls C hl hP hS => by
  obtain ⟨q0, hq⟩ := List.getElem?_of_mem hk
  have h1 := wsx_get (E := E) (σ := σ) hq
  exact va_cald (tys := tyl E) C.1 C.2.1 C.2.2.2.2.2.2.2.1.1 hP q0 1 (h1.trans (by show some (_, cel E σ k i) = _; rw [he])) rfl hin d (K p e s m args below meth c H locs ls C hl hP hS)
theorem r_aald {k i n : Nat} {f : Nat → Option Nat} {j : Int32} {a : Nat} (hk : (k, i) ∈ PL) (he : cel E σ k i = .inl (cA E 2, n, .inr (.inr (.inr (.inr f))))) (hin : vp_in j n) (ha : f j.toNatClampNeg = some a) (d : decode M.2.1 pc = .ok (.aaload, 1)) (K : GW E Z M (pc + 1) L (.ref a :: S) σ) : GW E Z M pc L (.int j :: .ref (ad E k i) :: S) σ := fun p e s m args below meth c H locs ls C hl hP hS => by
  obtain ⟨q0, hq⟩ := List.getElem?_of_mem hk
  have h1 := wsx_get (E := E) (σ := σ) hq
  exact va_aldq (tys := tyl E) C.1 C.2.1 C.2.2.2.2.2.2.2.1.1 hP q0 2 (h1.trans (by show some (_, cel E σ k i) = _; rw [he])) rfl hin d (by rw [ha]; exact K p e s m args below meth c H locs ls C hl hP hS)
theorem r_alen {k i n : Nat} {f : Nat → Int32} (v : Int32) (hk : (k, i) ∈ PL) (he : cel E σ k i = .inl (cA E 0, n, .inl f)) (hv : Int32.ofNat n = v) (d : decode M.2.1 pc = .ok (.arraylength, 1)) (K : GW E Z M (pc + 1) L (.int v :: S) σ) : GW E Z M pc L (.ref (ad E k i) :: S) σ := fun p e s m args below meth c H locs ls C hl hP hS => by
  obtain ⟨q0, hq⟩ := List.getElem?_of_mem hk
  have h1 := wsx_get (E := E) (σ := σ) hq
  exact va_alen (tys := tyl E) C.1 C.2.1 C.2.2.2.2.2.2.2.1.1 hP q0 0 (h1.trans (by show some (_, cel E σ k i) = _; rw [he])) (ty := .int) rfl hv d (K p e s m args below meth c H locs ls C hl hP hS)
theorem r_iast {k i n : Nat} {f : Nat → Int32} {j x : Int32} {σ' : Sg} (hk : (k, i) ∈ PL) (he : cel E σ k i = .inl (cA E 0, n, .inl f)) (hin : vp_in j n) (hnew : cel E σ' k i = .inl (cA E 0, n, .inl (upd f j.toNatClampNeg x))) (hoth : ∀ y, y ∈ PL → y ≠ (k, i) → cel E σ' y.1 y.2 = cel E σ y.1 y.2) (d : decode M.2.1 pc = .ok (.iastore, 1)) (K : GW E Z M (pc + 1) L S σ') : GW E Z M pc L (.int x :: .int j :: .ref (ad E k i) :: S) σ := fun p e s m args below meth c H locs ls C hl hP hS => by
  obtain ⟨q0, hq⟩ := List.getElem?_of_mem hk
  have h1 := wsx_get (E := E) (σ := σ) hq
  exact va_iast (tys := tyl E) C.1 C.2.1 C.2.2.2.2.2.2.2.1.1 hP (wsx_D C.2.2.2.2.2.2.2.2.2.1) hS q0 0 (h1.trans (by show some (_, cel E σ k i) = _; rw [he])) rfl hin d (fun H1 locs1 hP1 hD1 hS1 => K p e s m args below meth c H1 locs1 ls C hl (wsx_set hq hP1 hnew hoth) hS1)
theorem r_cast {k i n : Nat} {f : Nat → Int32} {j x : Int32} {σ' : Sg} (hk : (k, i) ∈ PL) (he : cel E σ k i = .inl (cA E 1, n, .inl f)) (hin : vp_in j n) (hnew : cel E σ' k i = .inl (cA E 1, n, .inl (upd f j.toNatClampNeg (vp_nar .char x)))) (hoth : ∀ y, y ∈ PL → y ≠ (k, i) → cel E σ' y.1 y.2 = cel E σ y.1 y.2) (d : decode M.2.1 pc = .ok (.castore, 1)) (K : GW E Z M (pc + 1) L S σ') : GW E Z M pc L (.int x :: .int j :: .ref (ad E k i) :: S) σ := fun p e s m args below meth c H locs ls C hl hP hS => by
  obtain ⟨q0, hq⟩ := List.getElem?_of_mem hk
  have h1 := wsx_get (E := E) (σ := σ) hq
  exact va_cast (tys := tyl E) C.1 C.2.1 C.2.2.2.2.2.2.2.1.1 hP (wsx_D C.2.2.2.2.2.2.2.2.2.1) hS q0 1 (h1.trans (by show some (_, cel E σ k i) = _; rw [he])) rfl hin d (fun H1 locs1 hP1 hD1 hS1 => K p e s m args below meth c H1 locs1 ls C hl (wsx_set hq hP1 hnew hoth) hS1)
theorem r_mmax {x y : Int32} {index : Nat} (hw : Cond.methodLink M.1.cls index Lib.Math.max.name ∈ TB) (h1 : Cond.static Lib.Math.max.name ∈ TB) (h2 : Cond.initialized "java/lang/Math" ∈ TB) (h3 : Cond.code Lib.Math.max.name Lib.Math.max.code 2 (some .int) ∈ TB) (hr : (decide (1 ≤ Z.1.frames) && decide ((S.map fun v => v.category).sum + 13 ≤ Z.1.locals) && decide (Z.2.1 ≤ Z.1.cells) && decide (Z.2.2.1 ≤ Z.1.slots)) = true) (d : decode M.2.1 pc = .ok (.invokestatic index, 3)) (K : GW E Z M (pc + 3) L (.int (if x < y then y else x) :: S) σ) : GW E Z M pc L (.int y :: .int x :: S) σ := fun p e s m args below meth c H locs ls C hl hP hS => by
  simp only [Bool.and_eq_true, decide_eq_true_eq] at hr
  exact va_mmax C.1 C.2.1 (C.2.2.1.trans hl.1.1.symm) C.2.2.2.2.2.1 (C.2.2.2.2.2.2.1 _ hw) (C.2.2.2.2.2.2.1 _ h1) (C.2.2.2.2.2.2.1 _ h2) (C.2.2.2.2.2.2.1 _ h3) hr.1.1.1 hr.1.1.2 hr.1.2 hr.2 d (K p e s m args below meth c H locs ls C hl hP hS)
theorem r_mmin {x y : Int32} {index : Nat} (hw : Cond.methodLink M.1.cls index Lib.Math.min.name ∈ TB) (h1 : Cond.static Lib.Math.min.name ∈ TB) (h2 : Cond.initialized "java/lang/Math" ∈ TB) (h3 : Cond.code Lib.Math.min.name Lib.Math.min.code 2 (some .int) ∈ TB) (hr : (decide (1 ≤ Z.1.frames) && decide ((S.map fun v => v.category).sum + 13 ≤ Z.1.locals) && decide (Z.2.1 ≤ Z.1.cells) && decide (Z.2.2.1 ≤ Z.1.slots)) = true) (d : decode M.2.1 pc = .ok (.invokestatic index, 3)) (K : GW E Z M (pc + 3) L (.int (if y < x then y else x) :: S) σ) : GW E Z M pc L (.int y :: .int x :: S) σ := fun p e s m args below meth c H locs ls C hl hP hS => by
  simp only [Bool.and_eq_true, decide_eq_true_eq] at hr
  exact va_mmin C.1 C.2.1 (C.2.2.1.trans hl.1.1.symm) C.2.2.2.2.2.1 (C.2.2.2.2.2.2.1 _ hw) (C.2.2.2.2.2.2.1 _ h1) (C.2.2.2.2.2.2.1 _ h2) (C.2.2.2.2.2.2.1 _ h3) hr.1.1.1 hr.1.1.2 hr.1.2 hr.2 d (K p e s m args below meth c H locs ls C hl hP hS)
end RULES
section RETS
variable {E : EnvT} {M : MI} {Q : Option Value → Sg → Prop} {pc : Nat} {L : List (Option Value)} {σ : Sg}
theorem r_ireturn {v : Int32} {ty : FieldType} (hr : M.2.2.2.1 = some ty) (hn : narrow ty (.int v) = .int v) (d : decode M.2.1 pc = .ok (.ireturn, 1)) (K : Q (some (.int v)) σ) : G E M Q pc L [.int v] σ := fun p e s m args below meth c H locs ls C hl hP hS =>
  W.zret C.1 C.2.1 (C.2.2.2.1.trans hr) hn (fun t ht hW => ⟨⟨_, σ, rfl, K, by rw [ht]; exact hP⟩, hS.F ht⟩) hS.2.2 d C.2.2.2.2.1
theorem r_lreturn {v : Int64} (hr : M.2.2.2.1 = some .long) (d : decode M.2.1 pc = .ok (.lreturn, 1)) (K : Q (some (.long v)) σ) : G E M Q pc L [.long v] σ := fun p e s m args below meth c H locs ls C hl hP hS =>
  W.lret C.1 C.2.1 (C.2.2.2.1.trans hr) (fun t ht hW => ⟨⟨_, σ, rfl, K, by rw [ht]; exact hP⟩, hS.F ht⟩) hS.2.2 d C.2.2.2.2.1
theorem r_return (hr : M.2.2.2.1 = none) (d : decode M.2.1 pc = .ok (.return_, 1)) (K : Q none σ) : G E M Q pc L [] σ := fun p e s m args below meth c H locs ls C hl hP hS =>
  W.vret C.1 C.2.1 (C.2.2.2.1.trans hr) (fun t ht hW => ⟨⟨_, σ, rfl, K, by rw [ht]; exact hP⟩, hS.F ht⟩) hS.2.2 d C.2.2.2.2.1
theorem r_areturn {a : Nat} {n : String} (hr : M.2.2.2.1 = some (.object n)) (d : decode M.2.1 pc = .ok (.areturn, 1)) (K : Q (some (.ref a)) σ) : G E M Q pc L [.ref a] σ := fun p e s m args below meth c H locs ls C hl hP hS =>
  W.aret C.1 C.2.1 (C.2.2.2.1.trans hr) (Or.inl ⟨n, rfl⟩) (Or.inr ⟨a, rfl⟩) (fun t ht hW => ⟨⟨_, σ, rfl, K, by rw [ht]; exact hP⟩, hS.F ht⟩) hS.2.2 d C.2.2.2.2.1
end RETS
end
section
section CALLS
/-- what is known of a static method, of a private one, of its number of arguments -/
def SMs (M : MI) (n : Nat) : Prop := cw M ∈ TB ∧ Cond.initialized M.1.cls ∈ TB ∧ (M.1.cls ≠ "java/lang/invoke/MethodHandle" ∧ M.1.cls ≠ "java/lang/invoke/VarHandle") ∧ (parseMethodDescriptor M.1.desc).map (fun d => d.parameters.length) = some n ∧ Cond.static M.1 ∈ TB
def SMv (M : MI) (n : Nat) : Prop := cw M ∈ TB ∧ Cond.initialized M.1.cls ∈ TB ∧ (M.1.cls ≠ "java/lang/invoke/MethodHandle" ∧ M.1.cls ≠ "java/lang/invoke/VarHandle") ∧ (parseMethodDescriptor M.1.desc).map (fun d => d.parameters.length) = some n ∧ Cond.instanceMethod M.1 ∈ TB ∧ Cond.selects M.1.cls M.1 M.1 ∈ TB
def cOK (M' : MI) (Z : ZT) (S : List Value) : Bool := decide (M'.2.2.2.2 + 1 ≤ Z.1.frames) && decide (8 + (M'.2.2.1 + 11) + 35 * M'.2.2.2.2 ≤ Z.1.locals) && decide ((S.map fun v => v.category).sum ≤ 8) && decide (Z.2.1 ≤ Z.1.cells) && decide (Z.2.2.1 ≤ Z.1.slots)
theorem lenOf {desc : String} {n : Nat} (h : (parseMethodDescriptor desc).map (fun d => d.parameters.length) = some n) : ∀ sig, parseMethodDescriptor desc = some sig → n = sig.parameters.length := by
  intro sig h1
  rw [h1] at h
  exact (Option.some.inj h).symm
section CX
variable {p : Program} {l : Launch} {e : Env} {R : Room} {s : State} {m : MethodId} {args : Array Value} {below : List Frame} {meth : Method} {c : Code} {H : Heap} {locs : List Loc} {cells slots : Nat} {Q : State → Prop} {pc : Nat} {ls : Array Slot} {rest st0 : List Value} {a : Array Value} {E : EnvT} {Qc : Option Value → Sg → Prop}
theorem callx (hr : va_Run p l e R s m args below meth c H locs cells slots 0 0 (F0 m pc ls st0) rest (Qx E Qc a) (Aof E)) (hS : va_S (Aof E) s.heap H locs)
    (kk : ∀ (v : Option Value) (σ' : Sg) (H1 : Heap) (locs1 : List Loc), Qc v σ' → va_P (eD E) vwCl (wsx E σ') H1 → va_S (Aof E) s.heap H1 locs1 → W p l e R s m args below meth c H1 locs1 cells slots Q (F0 m (pc + 3) ls (v.toList ++ rest))) : W p l e R s m args below meth c H locs cells slots Q (F0 m pc ls st0) := by
  intro T hT X
  obtain ⟨v, st₀, t, T', L, h0, X', hL, e1, e2, ⟨⟨v', σ', hv, hq, hP⟩, hz, hk⟩, st⟩ := hr T hT X
  cases hv
  rw [h0] at hz hk
  obtain ⟨t2, a1, b1⟩ := kk v σ' T'.heap (locs ++ L) hq (by rw [e1]; exact hP)
    ⟨Nat.le_trans hS.1 (by rw [e1]; exact hz), fun q h1 h2 => by rw [e1, hk q (Nat.lt_of_lt_of_le h1 hS.1) h2]; exact hS.2.1 q h1 h2, fun q hq => by
      rcases List.mem_append.mp hq with h | h
      · exact hS.2.2 q h
      · exact hL q h⟩ T' rfl X'
  exact ⟨t2, st t2 a1, b1⟩
theorem Px_now {As : List Value} {σ : Sg} (hK : Knw E s) (hX : Ext E s s.heap) (hD : Dis E) (hP : va_P (eD E) vwCl (wsx E σ) H) (hS : va_S (Aof E) s.heap H locs) : ∀ U : State, U.heap = H → s.WarmedH U.vm → Px E As σ As.toArray U := fun U hU hW => ⟨rfl, by rw [hU]; exact hP, hK.warm hW, by rw [hU]; exact (hX.kept hS.2.1).moved hW.alike, hD⟩
theorem pay_tb {w0 : Cond} (hts : ∀ w ∈ TB, w.before args s = true) (h0 : w0 ∈ TB) : ∀ w ∈ w0 :: TB, ∀ (a' : Array Value) (U : State), s.WarmedH U.vm → w.before a' U = true := pay_in hts (fun w hw => by
  rcases List.mem_cons.mp hw with rfl | hw
  · exact ⟨h0, tb_good h0⟩
  · exact ⟨hw, tb_good hw⟩)
end CX
variable {E : EnvT} {Z : ZT} {M M' : MI} {pc : Nat} {L : List (Option Value)} {S : List Value} {σ : Sg} {As : List Value} {index n : Nat} {Qc : Option Value → Sg → Prop}
/-- the receiver's cell -/
def Rcv (E : EnvT) (σ : Sg) (C0 : String) (b : Nat) : Prop := ∀ (s : State) (H : Heap) (locs : List Loc), Knw E s → Ext E s s.heap → va_P (eD E) vwCl (wsx E σ) H → va_S (Aof E) s.heap H locs → ∃ cellB : Cell, H[b]? = some cellB ∧ cellB.vm.isStatics = false ∧ s.vm.findClass C0 = some cellB.cls
theorem rcv_pl {k i ci N : Nat} {C0 : String} {T0 : u_T} {fs : List Value} (hk : (k, i) ∈ PL) (he : cel E σ k i = .inr (ci, fs)) (hc : vwCl[ci]? = some (C0, T0, N)) : Rcv E σ C0 (ad E k i) := by
  intro s H locs hK hX hP hS
  obtain ⟨q0, hq⟩ := List.getElem?_of_mem hk
  have h1 := wsx_get (E := E) (σ := σ) hq
  exact va_recv hK.1 hP hc (h1.trans (by show some (_, cel E σ k i) = _; rw [he]))
theorem rcv_str {i : Nat} (hi : i < 5) : Rcv E σ "java/lang/String" (sK E i) := by
  intro s H locs hK hX hP hS
  exact vk_recv hX.1 hi hS
theorem r_cS (f : SMs M' n) (hn : As.length = n) (hw : Cond.methodLink M.1.cls index M'.1 ∈ TB) (ok : cOK M' Z S = true) (d : decode M.2.1 pc = .ok (.invokestatic index, 3)) (hM : Mw E M' As σ Qc) (K : ∀ v σ', Qc v σ' → GW E Z M (pc + 3) L (v.toList ++ S) σ') : GW E Z M pc L (As.reverse ++ S) σ := by
  intro p e s m args below meth c H locs ls C hl hP hS
  obtain ⟨f1, f2, f3, f4, f5⟩ := f
  simp only [cOK, Bool.and_eq_true, decide_eq_true_eq] at ok
  obtain ⟨⟨⟨⟨o1, o2⟩, o3⟩, o4⟩, o5⟩ := ok
  obtain ⟨c1, c2, c3, c4, c5, c6, c7, c8, c9, c10, c11⟩ := id C
  have cb : CallB Z.1 s args M.1.cls index M'.1 M'.2.1 M'.2.2.1 M'.2.2.2.1 (cw M' :: TB) (rmv M'.2.2.2.2) 0 0 n := ⟨rfl, rfl, o1, o2, pay_tb c7 f1, List.mem_cons_self, c7 _ f1, c7 _ f2, f3, lenOf f4, c7 _ hw⟩
  exact callx (va_runS ⟨c1, c2, c3, c6, c7⟩ hM ⟨cb, c7 _ f5⟩ ⟨Px_blind, Px_now c8 c9 c10 hP hS⟩ rfl hn hl.1.1 rfl (lv_room o3) d ⟨o4, o5⟩) hS (fun v σ' H1 locs1 hq hP1 hS1 => K v σ' hq p e s m args below meth c H1 locs1 ls C hl hP1 hS1)
theorem r_cSN {host : String} (f : SMs M' n) (hn : As.length = n) (hw : Cond.methodLinkNest M.1.cls index M'.1 host ∈ lw_tbl) (ok : cOK M' Z S = true) (d : decode M.2.1 pc = .ok (.invokestatic index, 3)) (hM : Mw E M' As σ Qc) (K : ∀ v σ', Qc v σ' → GW E Z M (pc + 3) L (v.toList ++ S) σ') : GW E Z M pc L (As.reverse ++ S) σ := by
  intro p e s m args below meth c H locs ls C hl hP hS
  obtain ⟨f1, f2, f3, f4, f5⟩ := f
  simp only [cOK, Bool.and_eq_true, decide_eq_true_eq] at ok
  obtain ⟨⟨⟨⟨o1, o2⟩, o3⟩, o4⟩, o5⟩ := ok
  obtain ⟨c1, c2, c3, c4, c5, c6, c7, c8, c9, c10, c11⟩ := id C
  have cb : va_CN Z.1 s args M.1.cls index M'.1 host M'.2.1 M'.2.2.1 M'.2.2.2.1 (cw M' :: TB) (rmv M'.2.2.2.2) 0 0 n := ⟨⟨rfl, rfl, o1, o2, pay_tb c7 f1, List.mem_cons_self⟩, c7 _ f1, c7 _ f2, f3, lenOf f4, va_Nw.use rfl (c8.2.1 _ hw rfl)⟩
  exact callx (va_runSN ⟨c1, c2, c3, c6, c7⟩ hM ⟨cb, c7 _ f5, trivial⟩ ⟨Px_blind, Px_now c8 c9 c10 hP hS⟩ rfl hn hl.1.1 rfl (lv_room o3) d ⟨o4, o5⟩) hS (fun v σ' H1 locs1 hq hP1 hS1 => K v σ' hq p e s m args below meth c H1 locs1 ls C hl hP1 hS1)
theorem r_cV {b : Nat} (f : SMv M' n) (hn : As.length = n) (hb : Rcv E σ M'.1.cls b) (hw : Cond.methodLink M.1.cls index M'.1 ∈ TB) (ok : cOK M' Z S = true) (d : decode M.2.1 pc = .ok (.invokevirtual index, 3)) (hM : Mw E M' (.ref b :: As) σ Qc) (K : ∀ v σ', Qc v σ' → GW E Z M (pc + 3) L (v.toList ++ S) σ') : GW E Z M pc L (As.reverse ++ .ref b :: S) σ := by
  intro p e s m args below meth c H locs ls C hl hP hS
  obtain ⟨f1, f2, f3, f4, f5, f6⟩ := f
  simp only [cOK, Bool.and_eq_true, decide_eq_true_eq] at ok
  obtain ⟨⟨⟨⟨o1, o2⟩, o3⟩, o4⟩, o5⟩ := ok
  obtain ⟨c1, c2, c3, c4, c5, c6, c7, c8, c9, c10, c11⟩ := id C
  have cb : CallB Z.1 s args M.1.cls index M'.1 M'.2.1 M'.2.2.1 M'.2.2.2.1 (cw M' :: TB) (rmv M'.2.2.2.2) 0 0 n := ⟨rfl, rfl, o1, o2, pay_tb c7 f1, List.mem_cons_self, c7 _ f1, c7 _ f2, f3, lenOf f4, c7 _ hw⟩
  exact callx (va_runV ⟨c1, c2, c3, c6, c7⟩ hM (C := M'.1.cls) ⟨cb, c7 _ f5, c7 _ f6⟩ ⟨Px_blind, hb s H locs c8 c9 hP hS, Px_now c8 c9 c10 hP hS⟩ rfl hn hl.1.1 rfl (lv_room o3) d ⟨o4, o5⟩) hS (fun v σ' H1 locs1 hq hP1 hS1 => K v σ' hq p e s m args below meth c H1 locs1 ls C hl hP1 hS1)
theorem r_cVN {b : Nat} {host : String} (f : SMv M' n) (hn : As.length = n) (hb : Rcv E σ M'.1.cls b) (hw : Cond.methodLinkNest M.1.cls index M'.1 host ∈ lw_tbl) (ok : cOK M' Z S = true) (d : decode M.2.1 pc = .ok (.invokevirtual index, 3)) (hM : Mw E M' (.ref b :: As) σ Qc) (K : ∀ v σ', Qc v σ' → GW E Z M (pc + 3) L (v.toList ++ S) σ') : GW E Z M pc L (As.reverse ++ .ref b :: S) σ := by
  intro p e s m args below meth c H locs ls C hl hP hS
  obtain ⟨f1, f2, f3, f4, f5, f6⟩ := f
  simp only [cOK, Bool.and_eq_true, decide_eq_true_eq] at ok
  obtain ⟨⟨⟨⟨o1, o2⟩, o3⟩, o4⟩, o5⟩ := ok
  obtain ⟨c1, c2, c3, c4, c5, c6, c7, c8, c9, c10, c11⟩ := id C
  have cb : va_CN Z.1 s args M.1.cls index M'.1 host M'.2.1 M'.2.2.1 M'.2.2.2.1 (cw M' :: TB) (rmv M'.2.2.2.2) 0 0 n := ⟨⟨rfl, rfl, o1, o2, pay_tb c7 f1, List.mem_cons_self⟩, c7 _ f1, c7 _ f2, f3, lenOf f4, va_Nw.use rfl (c8.2.1 _ hw rfl)⟩
  exact callx (va_runVN ⟨c1, c2, c3, c6, c7⟩ hM (C := M'.1.cls) ⟨cb, c7 _ f5, c7 _ f6⟩ ⟨Px_blind, hb s H locs c8 c9 hP hS, Px_now c8 c9 c10 hP hS⟩ rfl hn hl.1.1 rfl (lv_room o3) d ⟨o4, o5⟩) hS (fun v σ' H1 locs1 hq hP1 hS1 => K v σ' hq p e s m args below meth c H1 locs1 ls C hl hP1 hS1)
/-- what the table says of a method that a class inherits or overrides: named x, of owner, selected y for receivers of class C0 -/
theorem r_cU {b : Nat} {x : MethodName} {owner C0 : String} (f1 : cw M' ∈ TB) (f2 : Cond.initialized M'.1.cls ∈ TB) (f3 : owner ≠ "java/lang/invoke/MethodHandle" ∧ owner ≠ "java/lang/invoke/VarHandle") (f4 : (parseMethodDescriptor x.desc).map (fun d => d.parameters.length) = some n) (f5 : Cond.sameMethod x.cls owner x.name x.desc ∈ TB) (f6 : Cond.selects C0 x M'.1 ∈ TB) (f7 : Cond.instanceMethod M'.1 ∈ TB) {w8 : Cond} (f8 : Cond.instanceMethod ⟨owner, x.name, x.desc⟩ ∈ TB) {by0 : ByteArray} {l0 : Nat} {r0 : Option FieldType} (f9 : Cond.code ⟨owner, x.name, x.desc⟩ by0 l0 r0 ∈ TB) (hn : As.length = n) (hb : Rcv E σ C0 b) (hw : Cond.methodLink M.1.cls index x ∈ TB) (ok : cOK M' Z S = true) (d : decode M.2.1 pc = .ok (.invokevirtual index, 3)) (hM : Mw E M' (.ref b :: As) σ Qc) (K : ∀ v σ', Qc v σ' → GW E Z M (pc + 3) L (v.toList ++ S) σ') : GW E Z M pc L (As.reverse ++ .ref b :: S) σ := by
  intro p e s m args below meth c H locs ls C hl hP hS
  simp only [cOK, Bool.and_eq_true, decide_eq_true_eq] at ok
  obtain ⟨⟨⟨⟨o1, o2⟩, o3⟩, o4⟩, o5⟩ := ok
  obtain ⟨c1, c2, c3, c4, c5, c6, c7, c8, c9, c10, c11⟩ := id C
  have cb : va_CU Z.1 s args M.1.cls C0 owner index x M'.1 M'.2.1 M'.2.2.1 M'.2.2.2.1 (cw M' :: TB) (rmv M'.2.2.2.2) 0 0 n := ⟨⟨rfl, rfl, o1, o2, pay_tb c7 f1, List.mem_cons_self⟩, c7 _ f1, c7 _ f2, f3, lenOf f4, c7 _ hw, c7 _ f5, va_Decl.of (c7 _ f8) (c7 _ f9), c7 _ f6, c7 _ f7⟩
  exact callx (va_runU ⟨c1, c2, c3, c6, c7⟩ hM cb ⟨Px_blind, hb s H locs c8 c9 hP hS, Px_now c8 c9 c10 hP hS⟩ rfl hn hl.1.1 rfl (lv_room o3) d ⟨o4, o5⟩) hS (fun v σ' H1 locs1 hq hP1 hS1 => K v σ' hq p e s m args below meth c H1 locs1 ls C hl hP1 hS1)
theorem r_cSU {b ci N : Nat} {C0 : String} {T0 : u_T} (f1 : cw M' ∈ TB) (f2 : Cond.initialized M'.1.cls ∈ TB) (f4 : (parseMethodDescriptor M'.1.desc).map (fun d => d.parameters.length) = some n) (f5 : Cond.sameMethod M'.1.cls M'.1.cls M'.1.name M'.1.desc ∈ TB) (f6 : Cond.superclass M.1.cls M'.1.cls ∈ TB) (f7 : Cond.instanceMethod M'.1 ∈ TB) (f8 : M'.1.name ≠ "<init>") (hn : As.length = n) (hc : vwCl[ci]? = some (C0, T0, N)) (hb : Rcv E σ C0 b) (hw : Cond.methodLink M.1.cls index M'.1 ∈ TB) (ok : cOK M' Z S = true) (d : decode M.2.1 pc = .ok (.invokespecial index, 3)) (hM : Mw E M' (.ref b :: As) σ Qc) (K : ∀ v σ', Qc v σ' → GW E Z M (pc + 3) L (v.toList ++ S) σ') : GW E Z M pc L (As.reverse ++ .ref b :: S) σ := by
  intro p e s m args below meth c H locs ls C hl hP hS
  simp only [cOK, Bool.and_eq_true, decide_eq_true_eq] at ok
  obtain ⟨⟨⟨⟨o1, o2⟩, o3⟩, o4⟩, o5⟩ := ok
  obtain ⟨c1, c2, c3, c4, c5, c6, c7, c8, c9, c10, c11⟩ := id C
  have cb : va_CS Z.1 s args M.1.cls index M'.1 M'.2.1 M'.2.2.1 M'.2.2.2.1 (cw M' :: TB) (rmv M'.2.2.2.2) 0 0 n := ⟨⟨rfl, rfl, o1, o2, pay_tb c7 f1, List.mem_cons_self⟩, c7 _ hw, c7 _ f5, c7 _ f6, c7 _ f7, c7 _ f2, c7 _ f1, f8, lenOf f4⟩
  exact callx (va_runSU (c8.1.1 ci _ hc).2 ⟨c1, c2, c3, c6, c7⟩ hM cb ⟨Px_blind, hb s H locs c8 c9 hP hS, Px_now c8 c9 c10 hP hS⟩ rfl hn hl.1.1 rfl (lv_room o3) d ⟨o4, o5⟩) hS (fun v σ' H1 locs1 hq hP1 hS1 => K v σ' hq p e s m args below meth c H1 locs1 ls C hl hP1 hS1)
/-- contracts by what they answer -/
def Mi (E : EnvT) (M : MI) (As : List Value) (σ : Sg) (Q : Int32 → Sg → Prop) : Prop := Mw E M As σ (fun v σ' => ∃ r, v = some (.int r) ∧ Q r σ')
def Ml (E : EnvT) (M : MI) (As : List Value) (σ : Sg) (Q : Int64 → Sg → Prop) : Prop := Mw E M As σ (fun v σ' => ∃ r, v = some (.long r) ∧ Q r σ')
def Mr (E : EnvT) (M : MI) (As : List Value) (σ : Sg) (Q : Nat → Sg → Prop) : Prop := Mw E M As σ (fun v σ' => ∃ r, v = some (.ref r) ∧ Q r σ')
def Mv (E : EnvT) (M : MI) (As : List Value) (σ : Sg) (Q : Sg → Prop) : Prop := Mw E M As σ (fun v σ' => v = none ∧ Q σ')
end CALLS
section CALLS2
variable {E : EnvT} {Z : ZT} {M M' : MI} {pc : Nat} {L : List (Option Value)} {S : List Value} {σ : Sg} {index : Nat} {b : Nat} {host : String}
theorem cS_i0 (f : SMs M' 0) (hw : Cond.methodLink M.1.cls index M'.1 ∈ TB) (ok : cOK M' Z S = true) (d : decode M.2.1 pc = .ok (.invokestatic index, 3)) (K : Mi E M' [] σ (fun r σ' => GW E Z M (pc + 3) L (.int r :: S) σ')) : GW E Z M pc L (S) σ := r_cS (As := []) f rfl hw ok d K (fun v σ1 h => by obtain ⟨r, rfl, hq⟩ := h; exact hq)
theorem cS_i1 {x0 : Value} (f : SMs M' 1) (hw : Cond.methodLink M.1.cls index M'.1 ∈ TB) (ok : cOK M' Z S = true) (d : decode M.2.1 pc = .ok (.invokestatic index, 3)) (K : Mi E M' [x0] σ (fun r σ' => GW E Z M (pc + 3) L (.int r :: S) σ')) : GW E Z M pc L (x0 :: S) σ := r_cS (As := [x0]) f rfl hw ok d K (fun v σ1 h => by obtain ⟨r, rfl, hq⟩ := h; exact hq)
theorem cS_i2 {x0 x1 : Value} (f : SMs M' 2) (hw : Cond.methodLink M.1.cls index M'.1 ∈ TB) (ok : cOK M' Z S = true) (d : decode M.2.1 pc = .ok (.invokestatic index, 3)) (K : Mi E M' [x0, x1] σ (fun r σ' => GW E Z M (pc + 3) L (.int r :: S) σ')) : GW E Z M pc L (x1 :: x0 :: S) σ := r_cS (As := [x0, x1]) f rfl hw ok d K (fun v σ1 h => by obtain ⟨r, rfl, hq⟩ := h; exact hq)
theorem cS_i3 {x0 x1 x2 : Value} (f : SMs M' 3) (hw : Cond.methodLink M.1.cls index M'.1 ∈ TB) (ok : cOK M' Z S = true) (d : decode M.2.1 pc = .ok (.invokestatic index, 3)) (K : Mi E M' [x0, x1, x2] σ (fun r σ' => GW E Z M (pc + 3) L (.int r :: S) σ')) : GW E Z M pc L (x2 :: x1 :: x0 :: S) σ := r_cS (As := [x0, x1, x2]) f rfl hw ok d K (fun v σ1 h => by obtain ⟨r, rfl, hq⟩ := h; exact hq)
theorem cS_i4 {x0 x1 x2 x3 : Value} (f : SMs M' 4) (hw : Cond.methodLink M.1.cls index M'.1 ∈ TB) (ok : cOK M' Z S = true) (d : decode M.2.1 pc = .ok (.invokestatic index, 3)) (K : Mi E M' [x0, x1, x2, x3] σ (fun r σ' => GW E Z M (pc + 3) L (.int r :: S) σ')) : GW E Z M pc L (x3 :: x2 :: x1 :: x0 :: S) σ := r_cS (As := [x0, x1, x2, x3]) f rfl hw ok d K (fun v σ1 h => by obtain ⟨r, rfl, hq⟩ := h; exact hq)
theorem cS_i5 {x0 x1 x2 x3 x4 : Value} (f : SMs M' 5) (hw : Cond.methodLink M.1.cls index M'.1 ∈ TB) (ok : cOK M' Z S = true) (d : decode M.2.1 pc = .ok (.invokestatic index, 3)) (K : Mi E M' [x0, x1, x2, x3, x4] σ (fun r σ' => GW E Z M (pc + 3) L (.int r :: S) σ')) : GW E Z M pc L (x4 :: x3 :: x2 :: x1 :: x0 :: S) σ := r_cS (As := [x0, x1, x2, x3, x4]) f rfl hw ok d K (fun v σ1 h => by obtain ⟨r, rfl, hq⟩ := h; exact hq)
theorem cS_l0 (f : SMs M' 0) (hw : Cond.methodLink M.1.cls index M'.1 ∈ TB) (ok : cOK M' Z S = true) (d : decode M.2.1 pc = .ok (.invokestatic index, 3)) (K : Ml E M' [] σ (fun r σ' => GW E Z M (pc + 3) L (.long r :: S) σ')) : GW E Z M pc L (S) σ := r_cS (As := []) f rfl hw ok d K (fun v σ1 h => by obtain ⟨r, rfl, hq⟩ := h; exact hq)
theorem cS_l1 {x0 : Value} (f : SMs M' 1) (hw : Cond.methodLink M.1.cls index M'.1 ∈ TB) (ok : cOK M' Z S = true) (d : decode M.2.1 pc = .ok (.invokestatic index, 3)) (K : Ml E M' [x0] σ (fun r σ' => GW E Z M (pc + 3) L (.long r :: S) σ')) : GW E Z M pc L (x0 :: S) σ := r_cS (As := [x0]) f rfl hw ok d K (fun v σ1 h => by obtain ⟨r, rfl, hq⟩ := h; exact hq)
theorem cS_l2 {x0 x1 : Value} (f : SMs M' 2) (hw : Cond.methodLink M.1.cls index M'.1 ∈ TB) (ok : cOK M' Z S = true) (d : decode M.2.1 pc = .ok (.invokestatic index, 3)) (K : Ml E M' [x0, x1] σ (fun r σ' => GW E Z M (pc + 3) L (.long r :: S) σ')) : GW E Z M pc L (x1 :: x0 :: S) σ := r_cS (As := [x0, x1]) f rfl hw ok d K (fun v σ1 h => by obtain ⟨r, rfl, hq⟩ := h; exact hq)
theorem cS_l3 {x0 x1 x2 : Value} (f : SMs M' 3) (hw : Cond.methodLink M.1.cls index M'.1 ∈ TB) (ok : cOK M' Z S = true) (d : decode M.2.1 pc = .ok (.invokestatic index, 3)) (K : Ml E M' [x0, x1, x2] σ (fun r σ' => GW E Z M (pc + 3) L (.long r :: S) σ')) : GW E Z M pc L (x2 :: x1 :: x0 :: S) σ := r_cS (As := [x0, x1, x2]) f rfl hw ok d K (fun v σ1 h => by obtain ⟨r, rfl, hq⟩ := h; exact hq)
theorem cS_l4 {x0 x1 x2 x3 : Value} (f : SMs M' 4) (hw : Cond.methodLink M.1.cls index M'.1 ∈ TB) (ok : cOK M' Z S = true) (d : decode M.2.1 pc = .ok (.invokestatic index, 3)) (K : Ml E M' [x0, x1, x2, x3] σ (fun r σ' => GW E Z M (pc + 3) L (.long r :: S) σ')) : GW E Z M pc L (x3 :: x2 :: x1 :: x0 :: S) σ := r_cS (As := [x0, x1, x2, x3]) f rfl hw ok d K (fun v σ1 h => by obtain ⟨r, rfl, hq⟩ := h; exact hq)
theorem cS_l5 {x0 x1 x2 x3 x4 : Value} (f : SMs M' 5) (hw : Cond.methodLink M.1.cls index M'.1 ∈ TB) (ok : cOK M' Z S = true) (d : decode M.2.1 pc = .ok (.invokestatic index, 3)) (K : Ml E M' [x0, x1, x2, x3, x4] σ (fun r σ' => GW E Z M (pc + 3) L (.long r :: S) σ')) : GW E Z M pc L (x4 :: x3 :: x2 :: x1 :: x0 :: S) σ := r_cS (As := [x0, x1, x2, x3, x4]) f rfl hw ok d K (fun v σ1 h => by obtain ⟨r, rfl, hq⟩ := h; exact hq)
theorem cS_r0 (f : SMs M' 0) (hw : Cond.methodLink M.1.cls index M'.1 ∈ TB) (ok : cOK M' Z S = true) (d : decode M.2.1 pc = .ok (.invokestatic index, 3)) (K : Mr E M' [] σ (fun r σ' => GW E Z M (pc + 3) L (.ref r :: S) σ')) : GW E Z M pc L (S) σ := r_cS (As := []) f rfl hw ok d K (fun v σ1 h => by obtain ⟨r, rfl, hq⟩ := h; exact hq)
theorem cS_r1 {x0 : Value} (f : SMs M' 1) (hw : Cond.methodLink M.1.cls index M'.1 ∈ TB) (ok : cOK M' Z S = true) (d : decode M.2.1 pc = .ok (.invokestatic index, 3)) (K : Mr E M' [x0] σ (fun r σ' => GW E Z M (pc + 3) L (.ref r :: S) σ')) : GW E Z M pc L (x0 :: S) σ := r_cS (As := [x0]) f rfl hw ok d K (fun v σ1 h => by obtain ⟨r, rfl, hq⟩ := h; exact hq)
theorem cS_r2 {x0 x1 : Value} (f : SMs M' 2) (hw : Cond.methodLink M.1.cls index M'.1 ∈ TB) (ok : cOK M' Z S = true) (d : decode M.2.1 pc = .ok (.invokestatic index, 3)) (K : Mr E M' [x0, x1] σ (fun r σ' => GW E Z M (pc + 3) L (.ref r :: S) σ')) : GW E Z M pc L (x1 :: x0 :: S) σ := r_cS (As := [x0, x1]) f rfl hw ok d K (fun v σ1 h => by obtain ⟨r, rfl, hq⟩ := h; exact hq)
theorem cS_r3 {x0 x1 x2 : Value} (f : SMs M' 3) (hw : Cond.methodLink M.1.cls index M'.1 ∈ TB) (ok : cOK M' Z S = true) (d : decode M.2.1 pc = .ok (.invokestatic index, 3)) (K : Mr E M' [x0, x1, x2] σ (fun r σ' => GW E Z M (pc + 3) L (.ref r :: S) σ')) : GW E Z M pc L (x2 :: x1 :: x0 :: S) σ := r_cS (As := [x0, x1, x2]) f rfl hw ok d K (fun v σ1 h => by obtain ⟨r, rfl, hq⟩ := h; exact hq)
theorem cS_r4 {x0 x1 x2 x3 : Value} (f : SMs M' 4) (hw : Cond.methodLink M.1.cls index M'.1 ∈ TB) (ok : cOK M' Z S = true) (d : decode M.2.1 pc = .ok (.invokestatic index, 3)) (K : Mr E M' [x0, x1, x2, x3] σ (fun r σ' => GW E Z M (pc + 3) L (.ref r :: S) σ')) : GW E Z M pc L (x3 :: x2 :: x1 :: x0 :: S) σ := r_cS (As := [x0, x1, x2, x3]) f rfl hw ok d K (fun v σ1 h => by obtain ⟨r, rfl, hq⟩ := h; exact hq)
theorem cS_r5 {x0 x1 x2 x3 x4 : Value} (f : SMs M' 5) (hw : Cond.methodLink M.1.cls index M'.1 ∈ TB) (ok : cOK M' Z S = true) (d : decode M.2.1 pc = .ok (.invokestatic index, 3)) (K : Mr E M' [x0, x1, x2, x3, x4] σ (fun r σ' => GW E Z M (pc + 3) L (.ref r :: S) σ')) : GW E Z M pc L (x4 :: x3 :: x2 :: x1 :: x0 :: S) σ := r_cS (As := [x0, x1, x2, x3, x4]) f rfl hw ok d K (fun v σ1 h => by obtain ⟨r, rfl, hq⟩ := h; exact hq)
theorem cS_v0 (f : SMs M' 0) (hw : Cond.methodLink M.1.cls index M'.1 ∈ TB) (ok : cOK M' Z S = true) (d : decode M.2.1 pc = .ok (.invokestatic index, 3)) (K : Mv E M' [] σ (fun σ' => GW E Z M (pc + 3) L (S) σ')) : GW E Z M pc L (S) σ := r_cS (As := []) f rfl hw ok d K (fun v σ1 h => by obtain ⟨rfl, hq⟩ := h; exact hq)
theorem cS_v1 {x0 : Value} (f : SMs M' 1) (hw : Cond.methodLink M.1.cls index M'.1 ∈ TB) (ok : cOK M' Z S = true) (d : decode M.2.1 pc = .ok (.invokestatic index, 3)) (K : Mv E M' [x0] σ (fun σ' => GW E Z M (pc + 3) L (S) σ')) : GW E Z M pc L (x0 :: S) σ := r_cS (As := [x0]) f rfl hw ok d K (fun v σ1 h => by obtain ⟨rfl, hq⟩ := h; exact hq)
theorem cS_v2 {x0 x1 : Value} (f : SMs M' 2) (hw : Cond.methodLink M.1.cls index M'.1 ∈ TB) (ok : cOK M' Z S = true) (d : decode M.2.1 pc = .ok (.invokestatic index, 3)) (K : Mv E M' [x0, x1] σ (fun σ' => GW E Z M (pc + 3) L (S) σ')) : GW E Z M pc L (x1 :: x0 :: S) σ := r_cS (As := [x0, x1]) f rfl hw ok d K (fun v σ1 h => by obtain ⟨rfl, hq⟩ := h; exact hq)
theorem cS_v3 {x0 x1 x2 : Value} (f : SMs M' 3) (hw : Cond.methodLink M.1.cls index M'.1 ∈ TB) (ok : cOK M' Z S = true) (d : decode M.2.1 pc = .ok (.invokestatic index, 3)) (K : Mv E M' [x0, x1, x2] σ (fun σ' => GW E Z M (pc + 3) L (S) σ')) : GW E Z M pc L (x2 :: x1 :: x0 :: S) σ := r_cS (As := [x0, x1, x2]) f rfl hw ok d K (fun v σ1 h => by obtain ⟨rfl, hq⟩ := h; exact hq)
theorem cS_v4 {x0 x1 x2 x3 : Value} (f : SMs M' 4) (hw : Cond.methodLink M.1.cls index M'.1 ∈ TB) (ok : cOK M' Z S = true) (d : decode M.2.1 pc = .ok (.invokestatic index, 3)) (K : Mv E M' [x0, x1, x2, x3] σ (fun σ' => GW E Z M (pc + 3) L (S) σ')) : GW E Z M pc L (x3 :: x2 :: x1 :: x0 :: S) σ := r_cS (As := [x0, x1, x2, x3]) f rfl hw ok d K (fun v σ1 h => by obtain ⟨rfl, hq⟩ := h; exact hq)
theorem cS_v5 {x0 x1 x2 x3 x4 : Value} (f : SMs M' 5) (hw : Cond.methodLink M.1.cls index M'.1 ∈ TB) (ok : cOK M' Z S = true) (d : decode M.2.1 pc = .ok (.invokestatic index, 3)) (K : Mv E M' [x0, x1, x2, x3, x4] σ (fun σ' => GW E Z M (pc + 3) L (S) σ')) : GW E Z M pc L (x4 :: x3 :: x2 :: x1 :: x0 :: S) σ := r_cS (As := [x0, x1, x2, x3, x4]) f rfl hw ok d K (fun v σ1 h => by obtain ⟨rfl, hq⟩ := h; exact hq)
theorem cSN_i1 {x0 : Value} (f : SMs M' 1) (hw : Cond.methodLinkNest M.1.cls index M'.1 host ∈ lw_tbl) (ok : cOK M' Z S = true) (d : decode M.2.1 pc = .ok (.invokestatic index, 3)) (K : Mi E M' [x0] σ (fun r σ' => GW E Z M (pc + 3) L (.int r :: S) σ')) : GW E Z M pc L (x0 :: S) σ := r_cSN (As := [x0]) f rfl hw ok d K (fun v σ1 h => by obtain ⟨r, rfl, hq⟩ := h; exact hq)
theorem cSN_i2 {x0 x1 : Value} (f : SMs M' 2) (hw : Cond.methodLinkNest M.1.cls index M'.1 host ∈ lw_tbl) (ok : cOK M' Z S = true) (d : decode M.2.1 pc = .ok (.invokestatic index, 3)) (K : Mi E M' [x0, x1] σ (fun r σ' => GW E Z M (pc + 3) L (.int r :: S) σ')) : GW E Z M pc L (x1 :: x0 :: S) σ := r_cSN (As := [x0, x1]) f rfl hw ok d K (fun v σ1 h => by obtain ⟨r, rfl, hq⟩ := h; exact hq)
theorem cSN_i3 {x0 x1 x2 : Value} (f : SMs M' 3) (hw : Cond.methodLinkNest M.1.cls index M'.1 host ∈ lw_tbl) (ok : cOK M' Z S = true) (d : decode M.2.1 pc = .ok (.invokestatic index, 3)) (K : Mi E M' [x0, x1, x2] σ (fun r σ' => GW E Z M (pc + 3) L (.int r :: S) σ')) : GW E Z M pc L (x2 :: x1 :: x0 :: S) σ := r_cSN (As := [x0, x1, x2]) f rfl hw ok d K (fun v σ1 h => by obtain ⟨r, rfl, hq⟩ := h; exact hq)
theorem cSN_i4 {x0 x1 x2 x3 : Value} (f : SMs M' 4) (hw : Cond.methodLinkNest M.1.cls index M'.1 host ∈ lw_tbl) (ok : cOK M' Z S = true) (d : decode M.2.1 pc = .ok (.invokestatic index, 3)) (K : Mi E M' [x0, x1, x2, x3] σ (fun r σ' => GW E Z M (pc + 3) L (.int r :: S) σ')) : GW E Z M pc L (x3 :: x2 :: x1 :: x0 :: S) σ := r_cSN (As := [x0, x1, x2, x3]) f rfl hw ok d K (fun v σ1 h => by obtain ⟨r, rfl, hq⟩ := h; exact hq)
theorem cSN_i5 {x0 x1 x2 x3 x4 : Value} (f : SMs M' 5) (hw : Cond.methodLinkNest M.1.cls index M'.1 host ∈ lw_tbl) (ok : cOK M' Z S = true) (d : decode M.2.1 pc = .ok (.invokestatic index, 3)) (K : Mi E M' [x0, x1, x2, x3, x4] σ (fun r σ' => GW E Z M (pc + 3) L (.int r :: S) σ')) : GW E Z M pc L (x4 :: x3 :: x2 :: x1 :: x0 :: S) σ := r_cSN (As := [x0, x1, x2, x3, x4]) f rfl hw ok d K (fun v σ1 h => by obtain ⟨r, rfl, hq⟩ := h; exact hq)
theorem cSN_l1 {x0 : Value} (f : SMs M' 1) (hw : Cond.methodLinkNest M.1.cls index M'.1 host ∈ lw_tbl) (ok : cOK M' Z S = true) (d : decode M.2.1 pc = .ok (.invokestatic index, 3)) (K : Ml E M' [x0] σ (fun r σ' => GW E Z M (pc + 3) L (.long r :: S) σ')) : GW E Z M pc L (x0 :: S) σ := r_cSN (As := [x0]) f rfl hw ok d K (fun v σ1 h => by obtain ⟨r, rfl, hq⟩ := h; exact hq)
theorem cSN_l2 {x0 x1 : Value} (f : SMs M' 2) (hw : Cond.methodLinkNest M.1.cls index M'.1 host ∈ lw_tbl) (ok : cOK M' Z S = true) (d : decode M.2.1 pc = .ok (.invokestatic index, 3)) (K : Ml E M' [x0, x1] σ (fun r σ' => GW E Z M (pc + 3) L (.long r :: S) σ')) : GW E Z M pc L (x1 :: x0 :: S) σ := r_cSN (As := [x0, x1]) f rfl hw ok d K (fun v σ1 h => by obtain ⟨r, rfl, hq⟩ := h; exact hq)
theorem cSN_l3 {x0 x1 x2 : Value} (f : SMs M' 3) (hw : Cond.methodLinkNest M.1.cls index M'.1 host ∈ lw_tbl) (ok : cOK M' Z S = true) (d : decode M.2.1 pc = .ok (.invokestatic index, 3)) (K : Ml E M' [x0, x1, x2] σ (fun r σ' => GW E Z M (pc + 3) L (.long r :: S) σ')) : GW E Z M pc L (x2 :: x1 :: x0 :: S) σ := r_cSN (As := [x0, x1, x2]) f rfl hw ok d K (fun v σ1 h => by obtain ⟨r, rfl, hq⟩ := h; exact hq)
theorem cSN_l4 {x0 x1 x2 x3 : Value} (f : SMs M' 4) (hw : Cond.methodLinkNest M.1.cls index M'.1 host ∈ lw_tbl) (ok : cOK M' Z S = true) (d : decode M.2.1 pc = .ok (.invokestatic index, 3)) (K : Ml E M' [x0, x1, x2, x3] σ (fun r σ' => GW E Z M (pc + 3) L (.long r :: S) σ')) : GW E Z M pc L (x3 :: x2 :: x1 :: x0 :: S) σ := r_cSN (As := [x0, x1, x2, x3]) f rfl hw ok d K (fun v σ1 h => by obtain ⟨r, rfl, hq⟩ := h; exact hq)
theorem cSN_l5 {x0 x1 x2 x3 x4 : Value} (f : SMs M' 5) (hw : Cond.methodLinkNest M.1.cls index M'.1 host ∈ lw_tbl) (ok : cOK M' Z S = true) (d : decode M.2.1 pc = .ok (.invokestatic index, 3)) (K : Ml E M' [x0, x1, x2, x3, x4] σ (fun r σ' => GW E Z M (pc + 3) L (.long r :: S) σ')) : GW E Z M pc L (x4 :: x3 :: x2 :: x1 :: x0 :: S) σ := r_cSN (As := [x0, x1, x2, x3, x4]) f rfl hw ok d K (fun v σ1 h => by obtain ⟨r, rfl, hq⟩ := h; exact hq)
theorem cSN_r1 {x0 : Value} (f : SMs M' 1) (hw : Cond.methodLinkNest M.1.cls index M'.1 host ∈ lw_tbl) (ok : cOK M' Z S = true) (d : decode M.2.1 pc = .ok (.invokestatic index, 3)) (K : Mr E M' [x0] σ (fun r σ' => GW E Z M (pc + 3) L (.ref r :: S) σ')) : GW E Z M pc L (x0 :: S) σ := r_cSN (As := [x0]) f rfl hw ok d K (fun v σ1 h => by obtain ⟨r, rfl, hq⟩ := h; exact hq)
theorem cSN_r2 {x0 x1 : Value} (f : SMs M' 2) (hw : Cond.methodLinkNest M.1.cls index M'.1 host ∈ lw_tbl) (ok : cOK M' Z S = true) (d : decode M.2.1 pc = .ok (.invokestatic index, 3)) (K : Mr E M' [x0, x1] σ (fun r σ' => GW E Z M (pc + 3) L (.ref r :: S) σ')) : GW E Z M pc L (x1 :: x0 :: S) σ := r_cSN (As := [x0, x1]) f rfl hw ok d K (fun v σ1 h => by obtain ⟨r, rfl, hq⟩ := h; exact hq)
theorem cSN_r3 {x0 x1 x2 : Value} (f : SMs M' 3) (hw : Cond.methodLinkNest M.1.cls index M'.1 host ∈ lw_tbl) (ok : cOK M' Z S = true) (d : decode M.2.1 pc = .ok (.invokestatic index, 3)) (K : Mr E M' [x0, x1, x2] σ (fun r σ' => GW E Z M (pc + 3) L (.ref r :: S) σ')) : GW E Z M pc L (x2 :: x1 :: x0 :: S) σ := r_cSN (As := [x0, x1, x2]) f rfl hw ok d K (fun v σ1 h => by obtain ⟨r, rfl, hq⟩ := h; exact hq)
theorem cSN_r4 {x0 x1 x2 x3 : Value} (f : SMs M' 4) (hw : Cond.methodLinkNest M.1.cls index M'.1 host ∈ lw_tbl) (ok : cOK M' Z S = true) (d : decode M.2.1 pc = .ok (.invokestatic index, 3)) (K : Mr E M' [x0, x1, x2, x3] σ (fun r σ' => GW E Z M (pc + 3) L (.ref r :: S) σ')) : GW E Z M pc L (x3 :: x2 :: x1 :: x0 :: S) σ := r_cSN (As := [x0, x1, x2, x3]) f rfl hw ok d K (fun v σ1 h => by obtain ⟨r, rfl, hq⟩ := h; exact hq)
theorem cSN_r5 {x0 x1 x2 x3 x4 : Value} (f : SMs M' 5) (hw : Cond.methodLinkNest M.1.cls index M'.1 host ∈ lw_tbl) (ok : cOK M' Z S = true) (d : decode M.2.1 pc = .ok (.invokestatic index, 3)) (K : Mr E M' [x0, x1, x2, x3, x4] σ (fun r σ' => GW E Z M (pc + 3) L (.ref r :: S) σ')) : GW E Z M pc L (x4 :: x3 :: x2 :: x1 :: x0 :: S) σ := r_cSN (As := [x0, x1, x2, x3, x4]) f rfl hw ok d K (fun v σ1 h => by obtain ⟨r, rfl, hq⟩ := h; exact hq)
theorem cSN_v1 {x0 : Value} (f : SMs M' 1) (hw : Cond.methodLinkNest M.1.cls index M'.1 host ∈ lw_tbl) (ok : cOK M' Z S = true) (d : decode M.2.1 pc = .ok (.invokestatic index, 3)) (K : Mv E M' [x0] σ (fun σ' => GW E Z M (pc + 3) L (S) σ')) : GW E Z M pc L (x0 :: S) σ := r_cSN (As := [x0]) f rfl hw ok d K (fun v σ1 h => by obtain ⟨rfl, hq⟩ := h; exact hq)
theorem cSN_v2 {x0 x1 : Value} (f : SMs M' 2) (hw : Cond.methodLinkNest M.1.cls index M'.1 host ∈ lw_tbl) (ok : cOK M' Z S = true) (d : decode M.2.1 pc = .ok (.invokestatic index, 3)) (K : Mv E M' [x0, x1] σ (fun σ' => GW E Z M (pc + 3) L (S) σ')) : GW E Z M pc L (x1 :: x0 :: S) σ := r_cSN (As := [x0, x1]) f rfl hw ok d K (fun v σ1 h => by obtain ⟨rfl, hq⟩ := h; exact hq)
theorem cSN_v3 {x0 x1 x2 : Value} (f : SMs M' 3) (hw : Cond.methodLinkNest M.1.cls index M'.1 host ∈ lw_tbl) (ok : cOK M' Z S = true) (d : decode M.2.1 pc = .ok (.invokestatic index, 3)) (K : Mv E M' [x0, x1, x2] σ (fun σ' => GW E Z M (pc + 3) L (S) σ')) : GW E Z M pc L (x2 :: x1 :: x0 :: S) σ := r_cSN (As := [x0, x1, x2]) f rfl hw ok d K (fun v σ1 h => by obtain ⟨rfl, hq⟩ := h; exact hq)
theorem cSN_v4 {x0 x1 x2 x3 : Value} (f : SMs M' 4) (hw : Cond.methodLinkNest M.1.cls index M'.1 host ∈ lw_tbl) (ok : cOK M' Z S = true) (d : decode M.2.1 pc = .ok (.invokestatic index, 3)) (K : Mv E M' [x0, x1, x2, x3] σ (fun σ' => GW E Z M (pc + 3) L (S) σ')) : GW E Z M pc L (x3 :: x2 :: x1 :: x0 :: S) σ := r_cSN (As := [x0, x1, x2, x3]) f rfl hw ok d K (fun v σ1 h => by obtain ⟨rfl, hq⟩ := h; exact hq)
theorem cSN_v5 {x0 x1 x2 x3 x4 : Value} (f : SMs M' 5) (hw : Cond.methodLinkNest M.1.cls index M'.1 host ∈ lw_tbl) (ok : cOK M' Z S = true) (d : decode M.2.1 pc = .ok (.invokestatic index, 3)) (K : Mv E M' [x0, x1, x2, x3, x4] σ (fun σ' => GW E Z M (pc + 3) L (S) σ')) : GW E Z M pc L (x4 :: x3 :: x2 :: x1 :: x0 :: S) σ := r_cSN (As := [x0, x1, x2, x3, x4]) f rfl hw ok d K (fun v σ1 h => by obtain ⟨rfl, hq⟩ := h; exact hq)
theorem cV_i0 (f : SMv M' 0) (hb : Rcv E σ M'.1.cls b) (hw : Cond.methodLink M.1.cls index M'.1 ∈ TB) (ok : cOK M' Z S = true) (d : decode M.2.1 pc = .ok (.invokevirtual index, 3)) (K : Mi E M' [.ref b] σ (fun r σ' => GW E Z M (pc + 3) L (.int r :: S) σ')) : GW E Z M pc L (.ref b :: S) σ := r_cV (As := []) f rfl hb hw ok d K (fun v σ1 h => by obtain ⟨r, rfl, hq⟩ := h; exact hq)
theorem cV_i1 {x0 : Value} (f : SMv M' 1) (hb : Rcv E σ M'.1.cls b) (hw : Cond.methodLink M.1.cls index M'.1 ∈ TB) (ok : cOK M' Z S = true) (d : decode M.2.1 pc = .ok (.invokevirtual index, 3)) (K : Mi E M' [.ref b, x0] σ (fun r σ' => GW E Z M (pc + 3) L (.int r :: S) σ')) : GW E Z M pc L (x0 :: .ref b :: S) σ := r_cV (As := [x0]) f rfl hb hw ok d K (fun v σ1 h => by obtain ⟨r, rfl, hq⟩ := h; exact hq)
theorem cV_i2 {x0 x1 : Value} (f : SMv M' 2) (hb : Rcv E σ M'.1.cls b) (hw : Cond.methodLink M.1.cls index M'.1 ∈ TB) (ok : cOK M' Z S = true) (d : decode M.2.1 pc = .ok (.invokevirtual index, 3)) (K : Mi E M' [.ref b, x0, x1] σ (fun r σ' => GW E Z M (pc + 3) L (.int r :: S) σ')) : GW E Z M pc L (x1 :: x0 :: .ref b :: S) σ := r_cV (As := [x0, x1]) f rfl hb hw ok d K (fun v σ1 h => by obtain ⟨r, rfl, hq⟩ := h; exact hq)
theorem cV_i3 {x0 x1 x2 : Value} (f : SMv M' 3) (hb : Rcv E σ M'.1.cls b) (hw : Cond.methodLink M.1.cls index M'.1 ∈ TB) (ok : cOK M' Z S = true) (d : decode M.2.1 pc = .ok (.invokevirtual index, 3)) (K : Mi E M' [.ref b, x0, x1, x2] σ (fun r σ' => GW E Z M (pc + 3) L (.int r :: S) σ')) : GW E Z M pc L (x2 :: x1 :: x0 :: .ref b :: S) σ := r_cV (As := [x0, x1, x2]) f rfl hb hw ok d K (fun v σ1 h => by obtain ⟨r, rfl, hq⟩ := h; exact hq)
theorem cV_i4 {x0 x1 x2 x3 : Value} (f : SMv M' 4) (hb : Rcv E σ M'.1.cls b) (hw : Cond.methodLink M.1.cls index M'.1 ∈ TB) (ok : cOK M' Z S = true) (d : decode M.2.1 pc = .ok (.invokevirtual index, 3)) (K : Mi E M' [.ref b, x0, x1, x2, x3] σ (fun r σ' => GW E Z M (pc + 3) L (.int r :: S) σ')) : GW E Z M pc L (x3 :: x2 :: x1 :: x0 :: .ref b :: S) σ := r_cV (As := [x0, x1, x2, x3]) f rfl hb hw ok d K (fun v σ1 h => by obtain ⟨r, rfl, hq⟩ := h; exact hq)
theorem cV_i5 {x0 x1 x2 x3 x4 : Value} (f : SMv M' 5) (hb : Rcv E σ M'.1.cls b) (hw : Cond.methodLink M.1.cls index M'.1 ∈ TB) (ok : cOK M' Z S = true) (d : decode M.2.1 pc = .ok (.invokevirtual index, 3)) (K : Mi E M' [.ref b, x0, x1, x2, x3, x4] σ (fun r σ' => GW E Z M (pc + 3) L (.int r :: S) σ')) : GW E Z M pc L (x4 :: x3 :: x2 :: x1 :: x0 :: .ref b :: S) σ := r_cV (As := [x0, x1, x2, x3, x4]) f rfl hb hw ok d K (fun v σ1 h => by obtain ⟨r, rfl, hq⟩ := h; exact hq)
theorem cV_l0 (f : SMv M' 0) (hb : Rcv E σ M'.1.cls b) (hw : Cond.methodLink M.1.cls index M'.1 ∈ TB) (ok : cOK M' Z S = true) (d : decode M.2.1 pc = .ok (.invokevirtual index, 3)) (K : Ml E M' [.ref b] σ (fun r σ' => GW E Z M (pc + 3) L (.long r :: S) σ')) : GW E Z M pc L (.ref b :: S) σ := r_cV (As := []) f rfl hb hw ok d K (fun v σ1 h => by obtain ⟨r, rfl, hq⟩ := h; exact hq)
theorem cV_l1 {x0 : Value} (f : SMv M' 1) (hb : Rcv E σ M'.1.cls b) (hw : Cond.methodLink M.1.cls index M'.1 ∈ TB) (ok : cOK M' Z S = true) (d : decode M.2.1 pc = .ok (.invokevirtual index, 3)) (K : Ml E M' [.ref b, x0] σ (fun r σ' => GW E Z M (pc + 3) L (.long r :: S) σ')) : GW E Z M pc L (x0 :: .ref b :: S) σ := r_cV (As := [x0]) f rfl hb hw ok d K (fun v σ1 h => by obtain ⟨r, rfl, hq⟩ := h; exact hq)
theorem cV_l2 {x0 x1 : Value} (f : SMv M' 2) (hb : Rcv E σ M'.1.cls b) (hw : Cond.methodLink M.1.cls index M'.1 ∈ TB) (ok : cOK M' Z S = true) (d : decode M.2.1 pc = .ok (.invokevirtual index, 3)) (K : Ml E M' [.ref b, x0, x1] σ (fun r σ' => GW E Z M (pc + 3) L (.long r :: S) σ')) : GW E Z M pc L (x1 :: x0 :: .ref b :: S) σ := r_cV (As := [x0, x1]) f rfl hb hw ok d K (fun v σ1 h => by obtain ⟨r, rfl, hq⟩ := h; exact hq)
theorem cV_l3 {x0 x1 x2 : Value} (f : SMv M' 3) (hb : Rcv E σ M'.1.cls b) (hw : Cond.methodLink M.1.cls index M'.1 ∈ TB) (ok : cOK M' Z S = true) (d : decode M.2.1 pc = .ok (.invokevirtual index, 3)) (K : Ml E M' [.ref b, x0, x1, x2] σ (fun r σ' => GW E Z M (pc + 3) L (.long r :: S) σ')) : GW E Z M pc L (x2 :: x1 :: x0 :: .ref b :: S) σ := r_cV (As := [x0, x1, x2]) f rfl hb hw ok d K (fun v σ1 h => by obtain ⟨r, rfl, hq⟩ := h; exact hq)
theorem cV_l4 {x0 x1 x2 x3 : Value} (f : SMv M' 4) (hb : Rcv E σ M'.1.cls b) (hw : Cond.methodLink M.1.cls index M'.1 ∈ TB) (ok : cOK M' Z S = true) (d : decode M.2.1 pc = .ok (.invokevirtual index, 3)) (K : Ml E M' [.ref b, x0, x1, x2, x3] σ (fun r σ' => GW E Z M (pc + 3) L (.long r :: S) σ')) : GW E Z M pc L (x3 :: x2 :: x1 :: x0 :: .ref b :: S) σ := r_cV (As := [x0, x1, x2, x3]) f rfl hb hw ok d K (fun v σ1 h => by obtain ⟨r, rfl, hq⟩ := h; exact hq)
theorem cV_l5 {x0 x1 x2 x3 x4 : Value} (f : SMv M' 5) (hb : Rcv E σ M'.1.cls b) (hw : Cond.methodLink M.1.cls index M'.1 ∈ TB) (ok : cOK M' Z S = true) (d : decode M.2.1 pc = .ok (.invokevirtual index, 3)) (K : Ml E M' [.ref b, x0, x1, x2, x3, x4] σ (fun r σ' => GW E Z M (pc + 3) L (.long r :: S) σ')) : GW E Z M pc L (x4 :: x3 :: x2 :: x1 :: x0 :: .ref b :: S) σ := r_cV (As := [x0, x1, x2, x3, x4]) f rfl hb hw ok d K (fun v σ1 h => by obtain ⟨r, rfl, hq⟩ := h; exact hq)
theorem cV_r0 (f : SMv M' 0) (hb : Rcv E σ M'.1.cls b) (hw : Cond.methodLink M.1.cls index M'.1 ∈ TB) (ok : cOK M' Z S = true) (d : decode M.2.1 pc = .ok (.invokevirtual index, 3)) (K : Mr E M' [.ref b] σ (fun r σ' => GW E Z M (pc + 3) L (.ref r :: S) σ')) : GW E Z M pc L (.ref b :: S) σ := r_cV (As := []) f rfl hb hw ok d K (fun v σ1 h => by obtain ⟨r, rfl, hq⟩ := h; exact hq)
theorem cV_r1 {x0 : Value} (f : SMv M' 1) (hb : Rcv E σ M'.1.cls b) (hw : Cond.methodLink M.1.cls index M'.1 ∈ TB) (ok : cOK M' Z S = true) (d : decode M.2.1 pc = .ok (.invokevirtual index, 3)) (K : Mr E M' [.ref b, x0] σ (fun r σ' => GW E Z M (pc + 3) L (.ref r :: S) σ')) : GW E Z M pc L (x0 :: .ref b :: S) σ := r_cV (As := [x0]) f rfl hb hw ok d K (fun v σ1 h => by obtain ⟨r, rfl, hq⟩ := h; exact hq)
theorem cV_r2 {x0 x1 : Value} (f : SMv M' 2) (hb : Rcv E σ M'.1.cls b) (hw : Cond.methodLink M.1.cls index M'.1 ∈ TB) (ok : cOK M' Z S = true) (d : decode M.2.1 pc = .ok (.invokevirtual index, 3)) (K : Mr E M' [.ref b, x0, x1] σ (fun r σ' => GW E Z M (pc + 3) L (.ref r :: S) σ')) : GW E Z M pc L (x1 :: x0 :: .ref b :: S) σ := r_cV (As := [x0, x1]) f rfl hb hw ok d K (fun v σ1 h => by obtain ⟨r, rfl, hq⟩ := h; exact hq)
theorem cV_r3 {x0 x1 x2 : Value} (f : SMv M' 3) (hb : Rcv E σ M'.1.cls b) (hw : Cond.methodLink M.1.cls index M'.1 ∈ TB) (ok : cOK M' Z S = true) (d : decode M.2.1 pc = .ok (.invokevirtual index, 3)) (K : Mr E M' [.ref b, x0, x1, x2] σ (fun r σ' => GW E Z M (pc + 3) L (.ref r :: S) σ')) : GW E Z M pc L (x2 :: x1 :: x0 :: .ref b :: S) σ := r_cV (As := [x0, x1, x2]) f rfl hb hw ok d K (fun v σ1 h => by obtain ⟨r, rfl, hq⟩ := h; exact hq)
theorem cV_r4 {x0 x1 x2 x3 : Value} (f : SMv M' 4) (hb : Rcv E σ M'.1.cls b) (hw : Cond.methodLink M.1.cls index M'.1 ∈ TB) (ok : cOK M' Z S = true) (d : decode M.2.1 pc = .ok (.invokevirtual index, 3)) (K : Mr E M' [.ref b, x0, x1, x2, x3] σ (fun r σ' => GW E Z M (pc + 3) L (.ref r :: S) σ')) : GW E Z M pc L (x3 :: x2 :: x1 :: x0 :: .ref b :: S) σ := r_cV (As := [x0, x1, x2, x3]) f rfl hb hw ok d K (fun v σ1 h => by obtain ⟨r, rfl, hq⟩ := h; exact hq)
theorem cV_r5 {x0 x1 x2 x3 x4 : Value} (f : SMv M' 5) (hb : Rcv E σ M'.1.cls b) (hw : Cond.methodLink M.1.cls index M'.1 ∈ TB) (ok : cOK M' Z S = true) (d : decode M.2.1 pc = .ok (.invokevirtual index, 3)) (K : Mr E M' [.ref b, x0, x1, x2, x3, x4] σ (fun r σ' => GW E Z M (pc + 3) L (.ref r :: S) σ')) : GW E Z M pc L (x4 :: x3 :: x2 :: x1 :: x0 :: .ref b :: S) σ := r_cV (As := [x0, x1, x2, x3, x4]) f rfl hb hw ok d K (fun v σ1 h => by obtain ⟨r, rfl, hq⟩ := h; exact hq)
theorem cV_v0 (f : SMv M' 0) (hb : Rcv E σ M'.1.cls b) (hw : Cond.methodLink M.1.cls index M'.1 ∈ TB) (ok : cOK M' Z S = true) (d : decode M.2.1 pc = .ok (.invokevirtual index, 3)) (K : Mv E M' [.ref b] σ (fun σ' => GW E Z M (pc + 3) L (S) σ')) : GW E Z M pc L (.ref b :: S) σ := r_cV (As := []) f rfl hb hw ok d K (fun v σ1 h => by obtain ⟨rfl, hq⟩ := h; exact hq)
theorem cV_v1 {x0 : Value} (f : SMv M' 1) (hb : Rcv E σ M'.1.cls b) (hw : Cond.methodLink M.1.cls index M'.1 ∈ TB) (ok : cOK M' Z S = true) (d : decode M.2.1 pc = .ok (.invokevirtual index, 3)) (K : Mv E M' [.ref b, x0] σ (fun σ' => GW E Z M (pc + 3) L (S) σ')) : GW E Z M pc L (x0 :: .ref b :: S) σ := r_cV (As := [x0]) f rfl hb hw ok d K (fun v σ1 h => by obtain ⟨rfl, hq⟩ := h; exact hq)
theorem cV_v2 {x0 x1 : Value} (f : SMv M' 2) (hb : Rcv E σ M'.1.cls b) (hw : Cond.methodLink M.1.cls index M'.1 ∈ TB) (ok : cOK M' Z S = true) (d : decode M.2.1 pc = .ok (.invokevirtual index, 3)) (K : Mv E M' [.ref b, x0, x1] σ (fun σ' => GW E Z M (pc + 3) L (S) σ')) : GW E Z M pc L (x1 :: x0 :: .ref b :: S) σ := r_cV (As := [x0, x1]) f rfl hb hw ok d K (fun v σ1 h => by obtain ⟨rfl, hq⟩ := h; exact hq)
theorem cV_v3 {x0 x1 x2 : Value} (f : SMv M' 3) (hb : Rcv E σ M'.1.cls b) (hw : Cond.methodLink M.1.cls index M'.1 ∈ TB) (ok : cOK M' Z S = true) (d : decode M.2.1 pc = .ok (.invokevirtual index, 3)) (K : Mv E M' [.ref b, x0, x1, x2] σ (fun σ' => GW E Z M (pc + 3) L (S) σ')) : GW E Z M pc L (x2 :: x1 :: x0 :: .ref b :: S) σ := r_cV (As := [x0, x1, x2]) f rfl hb hw ok d K (fun v σ1 h => by obtain ⟨rfl, hq⟩ := h; exact hq)
theorem cV_v4 {x0 x1 x2 x3 : Value} (f : SMv M' 4) (hb : Rcv E σ M'.1.cls b) (hw : Cond.methodLink M.1.cls index M'.1 ∈ TB) (ok : cOK M' Z S = true) (d : decode M.2.1 pc = .ok (.invokevirtual index, 3)) (K : Mv E M' [.ref b, x0, x1, x2, x3] σ (fun σ' => GW E Z M (pc + 3) L (S) σ')) : GW E Z M pc L (x3 :: x2 :: x1 :: x0 :: .ref b :: S) σ := r_cV (As := [x0, x1, x2, x3]) f rfl hb hw ok d K (fun v σ1 h => by obtain ⟨rfl, hq⟩ := h; exact hq)
theorem cV_v5 {x0 x1 x2 x3 x4 : Value} (f : SMv M' 5) (hb : Rcv E σ M'.1.cls b) (hw : Cond.methodLink M.1.cls index M'.1 ∈ TB) (ok : cOK M' Z S = true) (d : decode M.2.1 pc = .ok (.invokevirtual index, 3)) (K : Mv E M' [.ref b, x0, x1, x2, x3, x4] σ (fun σ' => GW E Z M (pc + 3) L (S) σ')) : GW E Z M pc L (x4 :: x3 :: x2 :: x1 :: x0 :: .ref b :: S) σ := r_cV (As := [x0, x1, x2, x3, x4]) f rfl hb hw ok d K (fun v σ1 h => by obtain ⟨rfl, hq⟩ := h; exact hq)
theorem cVN_i0 (f : SMv M' 0) (hb : Rcv E σ M'.1.cls b) (hw : Cond.methodLinkNest M.1.cls index M'.1 host ∈ lw_tbl) (ok : cOK M' Z S = true) (d : decode M.2.1 pc = .ok (.invokevirtual index, 3)) (K : Mi E M' [.ref b] σ (fun r σ' => GW E Z M (pc + 3) L (.int r :: S) σ')) : GW E Z M pc L (.ref b :: S) σ := r_cVN (As := []) f rfl hb hw ok d K (fun v σ1 h => by obtain ⟨r, rfl, hq⟩ := h; exact hq)
theorem cVN_i1 {x0 : Value} (f : SMv M' 1) (hb : Rcv E σ M'.1.cls b) (hw : Cond.methodLinkNest M.1.cls index M'.1 host ∈ lw_tbl) (ok : cOK M' Z S = true) (d : decode M.2.1 pc = .ok (.invokevirtual index, 3)) (K : Mi E M' [.ref b, x0] σ (fun r σ' => GW E Z M (pc + 3) L (.int r :: S) σ')) : GW E Z M pc L (x0 :: .ref b :: S) σ := r_cVN (As := [x0]) f rfl hb hw ok d K (fun v σ1 h => by obtain ⟨r, rfl, hq⟩ := h; exact hq)
theorem cVN_i2 {x0 x1 : Value} (f : SMv M' 2) (hb : Rcv E σ M'.1.cls b) (hw : Cond.methodLinkNest M.1.cls index M'.1 host ∈ lw_tbl) (ok : cOK M' Z S = true) (d : decode M.2.1 pc = .ok (.invokevirtual index, 3)) (K : Mi E M' [.ref b, x0, x1] σ (fun r σ' => GW E Z M (pc + 3) L (.int r :: S) σ')) : GW E Z M pc L (x1 :: x0 :: .ref b :: S) σ := r_cVN (As := [x0, x1]) f rfl hb hw ok d K (fun v σ1 h => by obtain ⟨r, rfl, hq⟩ := h; exact hq)
theorem cVN_i3 {x0 x1 x2 : Value} (f : SMv M' 3) (hb : Rcv E σ M'.1.cls b) (hw : Cond.methodLinkNest M.1.cls index M'.1 host ∈ lw_tbl) (ok : cOK M' Z S = true) (d : decode M.2.1 pc = .ok (.invokevirtual index, 3)) (K : Mi E M' [.ref b, x0, x1, x2] σ (fun r σ' => GW E Z M (pc + 3) L (.int r :: S) σ')) : GW E Z M pc L (x2 :: x1 :: x0 :: .ref b :: S) σ := r_cVN (As := [x0, x1, x2]) f rfl hb hw ok d K (fun v σ1 h => by obtain ⟨r, rfl, hq⟩ := h; exact hq)
theorem cVN_i4 {x0 x1 x2 x3 : Value} (f : SMv M' 4) (hb : Rcv E σ M'.1.cls b) (hw : Cond.methodLinkNest M.1.cls index M'.1 host ∈ lw_tbl) (ok : cOK M' Z S = true) (d : decode M.2.1 pc = .ok (.invokevirtual index, 3)) (K : Mi E M' [.ref b, x0, x1, x2, x3] σ (fun r σ' => GW E Z M (pc + 3) L (.int r :: S) σ')) : GW E Z M pc L (x3 :: x2 :: x1 :: x0 :: .ref b :: S) σ := r_cVN (As := [x0, x1, x2, x3]) f rfl hb hw ok d K (fun v σ1 h => by obtain ⟨r, rfl, hq⟩ := h; exact hq)
theorem cVN_i5 {x0 x1 x2 x3 x4 : Value} (f : SMv M' 5) (hb : Rcv E σ M'.1.cls b) (hw : Cond.methodLinkNest M.1.cls index M'.1 host ∈ lw_tbl) (ok : cOK M' Z S = true) (d : decode M.2.1 pc = .ok (.invokevirtual index, 3)) (K : Mi E M' [.ref b, x0, x1, x2, x3, x4] σ (fun r σ' => GW E Z M (pc + 3) L (.int r :: S) σ')) : GW E Z M pc L (x4 :: x3 :: x2 :: x1 :: x0 :: .ref b :: S) σ := r_cVN (As := [x0, x1, x2, x3, x4]) f rfl hb hw ok d K (fun v σ1 h => by obtain ⟨r, rfl, hq⟩ := h; exact hq)
theorem cVN_l0 (f : SMv M' 0) (hb : Rcv E σ M'.1.cls b) (hw : Cond.methodLinkNest M.1.cls index M'.1 host ∈ lw_tbl) (ok : cOK M' Z S = true) (d : decode M.2.1 pc = .ok (.invokevirtual index, 3)) (K : Ml E M' [.ref b] σ (fun r σ' => GW E Z M (pc + 3) L (.long r :: S) σ')) : GW E Z M pc L (.ref b :: S) σ := r_cVN (As := []) f rfl hb hw ok d K (fun v σ1 h => by obtain ⟨r, rfl, hq⟩ := h; exact hq)
theorem cVN_l1 {x0 : Value} (f : SMv M' 1) (hb : Rcv E σ M'.1.cls b) (hw : Cond.methodLinkNest M.1.cls index M'.1 host ∈ lw_tbl) (ok : cOK M' Z S = true) (d : decode M.2.1 pc = .ok (.invokevirtual index, 3)) (K : Ml E M' [.ref b, x0] σ (fun r σ' => GW E Z M (pc + 3) L (.long r :: S) σ')) : GW E Z M pc L (x0 :: .ref b :: S) σ := r_cVN (As := [x0]) f rfl hb hw ok d K (fun v σ1 h => by obtain ⟨r, rfl, hq⟩ := h; exact hq)
theorem cVN_l2 {x0 x1 : Value} (f : SMv M' 2) (hb : Rcv E σ M'.1.cls b) (hw : Cond.methodLinkNest M.1.cls index M'.1 host ∈ lw_tbl) (ok : cOK M' Z S = true) (d : decode M.2.1 pc = .ok (.invokevirtual index, 3)) (K : Ml E M' [.ref b, x0, x1] σ (fun r σ' => GW E Z M (pc + 3) L (.long r :: S) σ')) : GW E Z M pc L (x1 :: x0 :: .ref b :: S) σ := r_cVN (As := [x0, x1]) f rfl hb hw ok d K (fun v σ1 h => by obtain ⟨r, rfl, hq⟩ := h; exact hq)
theorem cVN_l3 {x0 x1 x2 : Value} (f : SMv M' 3) (hb : Rcv E σ M'.1.cls b) (hw : Cond.methodLinkNest M.1.cls index M'.1 host ∈ lw_tbl) (ok : cOK M' Z S = true) (d : decode M.2.1 pc = .ok (.invokevirtual index, 3)) (K : Ml E M' [.ref b, x0, x1, x2] σ (fun r σ' => GW E Z M (pc + 3) L (.long r :: S) σ')) : GW E Z M pc L (x2 :: x1 :: x0 :: .ref b :: S) σ := r_cVN (As := [x0, x1, x2]) f rfl hb hw ok d K (fun v σ1 h => by obtain ⟨r, rfl, hq⟩ := h; exact hq)
theorem cVN_l4 {x0 x1 x2 x3 : Value} (f : SMv M' 4) (hb : Rcv E σ M'.1.cls b) (hw : Cond.methodLinkNest M.1.cls index M'.1 host ∈ lw_tbl) (ok : cOK M' Z S = true) (d : decode M.2.1 pc = .ok (.invokevirtual index, 3)) (K : Ml E M' [.ref b, x0, x1, x2, x3] σ (fun r σ' => GW E Z M (pc + 3) L (.long r :: S) σ')) : GW E Z M pc L (x3 :: x2 :: x1 :: x0 :: .ref b :: S) σ := r_cVN (As := [x0, x1, x2, x3]) f rfl hb hw ok d K (fun v σ1 h => by obtain ⟨r, rfl, hq⟩ := h; exact hq)
theorem cVN_l5 {x0 x1 x2 x3 x4 : Value} (f : SMv M' 5) (hb : Rcv E σ M'.1.cls b) (hw : Cond.methodLinkNest M.1.cls index M'.1 host ∈ lw_tbl) (ok : cOK M' Z S = true) (d : decode M.2.1 pc = .ok (.invokevirtual index, 3)) (K : Ml E M' [.ref b, x0, x1, x2, x3, x4] σ (fun r σ' => GW E Z M (pc + 3) L (.long r :: S) σ')) : GW E Z M pc L (x4 :: x3 :: x2 :: x1 :: x0 :: .ref b :: S) σ := r_cVN (As := [x0, x1, x2, x3, x4]) f rfl hb hw ok d K (fun v σ1 h => by obtain ⟨r, rfl, hq⟩ := h; exact hq)
theorem cVN_r0 (f : SMv M' 0) (hb : Rcv E σ M'.1.cls b) (hw : Cond.methodLinkNest M.1.cls index M'.1 host ∈ lw_tbl) (ok : cOK M' Z S = true) (d : decode M.2.1 pc = .ok (.invokevirtual index, 3)) (K : Mr E M' [.ref b] σ (fun r σ' => GW E Z M (pc + 3) L (.ref r :: S) σ')) : GW E Z M pc L (.ref b :: S) σ := r_cVN (As := []) f rfl hb hw ok d K (fun v σ1 h => by obtain ⟨r, rfl, hq⟩ := h; exact hq)
theorem cVN_r1 {x0 : Value} (f : SMv M' 1) (hb : Rcv E σ M'.1.cls b) (hw : Cond.methodLinkNest M.1.cls index M'.1 host ∈ lw_tbl) (ok : cOK M' Z S = true) (d : decode M.2.1 pc = .ok (.invokevirtual index, 3)) (K : Mr E M' [.ref b, x0] σ (fun r σ' => GW E Z M (pc + 3) L (.ref r :: S) σ')) : GW E Z M pc L (x0 :: .ref b :: S) σ := r_cVN (As := [x0]) f rfl hb hw ok d K (fun v σ1 h => by obtain ⟨r, rfl, hq⟩ := h; exact hq)
theorem cVN_r2 {x0 x1 : Value} (f : SMv M' 2) (hb : Rcv E σ M'.1.cls b) (hw : Cond.methodLinkNest M.1.cls index M'.1 host ∈ lw_tbl) (ok : cOK M' Z S = true) (d : decode M.2.1 pc = .ok (.invokevirtual index, 3)) (K : Mr E M' [.ref b, x0, x1] σ (fun r σ' => GW E Z M (pc + 3) L (.ref r :: S) σ')) : GW E Z M pc L (x1 :: x0 :: .ref b :: S) σ := r_cVN (As := [x0, x1]) f rfl hb hw ok d K (fun v σ1 h => by obtain ⟨r, rfl, hq⟩ := h; exact hq)
theorem cVN_r3 {x0 x1 x2 : Value} (f : SMv M' 3) (hb : Rcv E σ M'.1.cls b) (hw : Cond.methodLinkNest M.1.cls index M'.1 host ∈ lw_tbl) (ok : cOK M' Z S = true) (d : decode M.2.1 pc = .ok (.invokevirtual index, 3)) (K : Mr E M' [.ref b, x0, x1, x2] σ (fun r σ' => GW E Z M (pc + 3) L (.ref r :: S) σ')) : GW E Z M pc L (x2 :: x1 :: x0 :: .ref b :: S) σ := r_cVN (As := [x0, x1, x2]) f rfl hb hw ok d K (fun v σ1 h => by obtain ⟨r, rfl, hq⟩ := h; exact hq)
theorem cVN_r4 {x0 x1 x2 x3 : Value} (f : SMv M' 4) (hb : Rcv E σ M'.1.cls b) (hw : Cond.methodLinkNest M.1.cls index M'.1 host ∈ lw_tbl) (ok : cOK M' Z S = true) (d : decode M.2.1 pc = .ok (.invokevirtual index, 3)) (K : Mr E M' [.ref b, x0, x1, x2, x3] σ (fun r σ' => GW E Z M (pc + 3) L (.ref r :: S) σ')) : GW E Z M pc L (x3 :: x2 :: x1 :: x0 :: .ref b :: S) σ := r_cVN (As := [x0, x1, x2, x3]) f rfl hb hw ok d K (fun v σ1 h => by obtain ⟨r, rfl, hq⟩ := h; exact hq)
theorem cVN_r5 {x0 x1 x2 x3 x4 : Value} (f : SMv M' 5) (hb : Rcv E σ M'.1.cls b) (hw : Cond.methodLinkNest M.1.cls index M'.1 host ∈ lw_tbl) (ok : cOK M' Z S = true) (d : decode M.2.1 pc = .ok (.invokevirtual index, 3)) (K : Mr E M' [.ref b, x0, x1, x2, x3, x4] σ (fun r σ' => GW E Z M (pc + 3) L (.ref r :: S) σ')) : GW E Z M pc L (x4 :: x3 :: x2 :: x1 :: x0 :: .ref b :: S) σ := r_cVN (As := [x0, x1, x2, x3, x4]) f rfl hb hw ok d K (fun v σ1 h => by obtain ⟨r, rfl, hq⟩ := h; exact hq)
theorem cVN_v0 (f : SMv M' 0) (hb : Rcv E σ M'.1.cls b) (hw : Cond.methodLinkNest M.1.cls index M'.1 host ∈ lw_tbl) (ok : cOK M' Z S = true) (d : decode M.2.1 pc = .ok (.invokevirtual index, 3)) (K : Mv E M' [.ref b] σ (fun σ' => GW E Z M (pc + 3) L (S) σ')) : GW E Z M pc L (.ref b :: S) σ := r_cVN (As := []) f rfl hb hw ok d K (fun v σ1 h => by obtain ⟨rfl, hq⟩ := h; exact hq)
theorem cVN_v1 {x0 : Value} (f : SMv M' 1) (hb : Rcv E σ M'.1.cls b) (hw : Cond.methodLinkNest M.1.cls index M'.1 host ∈ lw_tbl) (ok : cOK M' Z S = true) (d : decode M.2.1 pc = .ok (.invokevirtual index, 3)) (K : Mv E M' [.ref b, x0] σ (fun σ' => GW E Z M (pc + 3) L (S) σ')) : GW E Z M pc L (x0 :: .ref b :: S) σ := r_cVN (As := [x0]) f rfl hb hw ok d K (fun v σ1 h => by obtain ⟨rfl, hq⟩ := h; exact hq)
theorem cVN_v2 {x0 x1 : Value} (f : SMv M' 2) (hb : Rcv E σ M'.1.cls b) (hw : Cond.methodLinkNest M.1.cls index M'.1 host ∈ lw_tbl) (ok : cOK M' Z S = true) (d : decode M.2.1 pc = .ok (.invokevirtual index, 3)) (K : Mv E M' [.ref b, x0, x1] σ (fun σ' => GW E Z M (pc + 3) L (S) σ')) : GW E Z M pc L (x1 :: x0 :: .ref b :: S) σ := r_cVN (As := [x0, x1]) f rfl hb hw ok d K (fun v σ1 h => by obtain ⟨rfl, hq⟩ := h; exact hq)
theorem cVN_v3 {x0 x1 x2 : Value} (f : SMv M' 3) (hb : Rcv E σ M'.1.cls b) (hw : Cond.methodLinkNest M.1.cls index M'.1 host ∈ lw_tbl) (ok : cOK M' Z S = true) (d : decode M.2.1 pc = .ok (.invokevirtual index, 3)) (K : Mv E M' [.ref b, x0, x1, x2] σ (fun σ' => GW E Z M (pc + 3) L (S) σ')) : GW E Z M pc L (x2 :: x1 :: x0 :: .ref b :: S) σ := r_cVN (As := [x0, x1, x2]) f rfl hb hw ok d K (fun v σ1 h => by obtain ⟨rfl, hq⟩ := h; exact hq)
theorem cVN_v4 {x0 x1 x2 x3 : Value} (f : SMv M' 4) (hb : Rcv E σ M'.1.cls b) (hw : Cond.methodLinkNest M.1.cls index M'.1 host ∈ lw_tbl) (ok : cOK M' Z S = true) (d : decode M.2.1 pc = .ok (.invokevirtual index, 3)) (K : Mv E M' [.ref b, x0, x1, x2, x3] σ (fun σ' => GW E Z M (pc + 3) L (S) σ')) : GW E Z M pc L (x3 :: x2 :: x1 :: x0 :: .ref b :: S) σ := r_cVN (As := [x0, x1, x2, x3]) f rfl hb hw ok d K (fun v σ1 h => by obtain ⟨rfl, hq⟩ := h; exact hq)
theorem cVN_v5 {x0 x1 x2 x3 x4 : Value} (f : SMv M' 5) (hb : Rcv E σ M'.1.cls b) (hw : Cond.methodLinkNest M.1.cls index M'.1 host ∈ lw_tbl) (ok : cOK M' Z S = true) (d : decode M.2.1 pc = .ok (.invokevirtual index, 3)) (K : Mv E M' [.ref b, x0, x1, x2, x3, x4] σ (fun σ' => GW E Z M (pc + 3) L (S) σ')) : GW E Z M pc L (x4 :: x3 :: x2 :: x1 :: x0 :: .ref b :: S) σ := r_cVN (As := [x0, x1, x2, x3, x4]) f rfl hb hw ok d K (fun v σ1 h => by obtain ⟨rfl, hq⟩ := h; exact hq)
end CALLS2
end
