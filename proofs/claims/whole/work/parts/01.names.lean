-- ===== PART A: goes FIRST, ahead of the names: the tables' words, and 'selects' of the private methods out of them =====
/-- a private method of a class that the tables say can be made, by its rows of tables_1 -/
def lw_okq (q : MethodName × Nat) : Prop := (q.1.cls ≠ "java/lang/invoke/MethodHandle" ∧ q.1.cls ≠ "java/lang/invoke/VarHandle") ∧ Cond.instantiable q.1.cls q.2 ∈ tables_1 ∧ Cond.privateMethod q.1 ∈ tables_1 ∧ Cond.instanceMethod q.1 ∈ tables_1
theorem lw_p0 : lw_okq (⟨"PaidInDays$Telling", "isFull", "()Z"⟩, 2) := ⟨⟨by decide +kernel, by decide +kernel⟩, List.mem_of_getElem? (i := 121) (by decide +kernel), List.mem_of_getElem? (i := 168) (by decide +kernel), List.mem_of_getElem? (i := 169) (by decide +kernel)⟩
theorem lw_p1 : lw_okq (⟨"PaidInDays", "refuse", "(I)I"⟩, 8) := ⟨⟨by decide +kernel, by decide +kernel⟩, List.mem_of_getElem? (i := 20) (by decide +kernel), List.mem_of_getElem? (i := 172) (by decide +kernel), List.mem_of_getElem? (i := 173) (by decide +kernel)⟩
theorem lw_p2 : lw_okq (⟨"PaidInDays$Telling", "add", "(C)V"⟩, 2) := ⟨⟨by decide +kernel, by decide +kernel⟩, List.mem_of_getElem? (i := 121) (by decide +kernel), List.mem_of_getElem? (i := 176) (by decide +kernel), List.mem_of_getElem? (i := 177) (by decide +kernel)⟩
theorem lw_p3 : lw_okq (⟨"PaidInDays$Crew", "become", "(LPaidInDays$Crew;)V"⟩, 9) := ⟨⟨by decide +kernel, by decide +kernel⟩, List.mem_of_getElem? (i := 28) (by decide +kernel), List.mem_of_getElem? (i := 185) (by decide +kernel), List.mem_of_getElem? (i := 186) (by decide +kernel)⟩
theorem lw_p4 : lw_okq (⟨"PaidInDays$Telling", "firstWrongLetter", "()I"⟩, 2) := ⟨⟨by decide +kernel, by decide +kernel⟩, List.mem_of_getElem? (i := 121) (by decide +kernel), List.mem_of_getElem? (i := 192) (by decide +kernel), List.mem_of_getElem? (i := 193) (by decide +kernel)⟩
theorem lw_p5 : lw_okq (⟨"PaidInDays$Telling", "shapeAt", "(I)Ljava/lang/String;"⟩, 2) := ⟨⟨by decide +kernel, by decide +kernel⟩, List.mem_of_getElem? (i := 121) (by decide +kernel), List.mem_of_getElem? (i := 196) (by decide +kernel), List.mem_of_getElem? (i := 197) (by decide +kernel)⟩
theorem lw_p6 : lw_okq (⟨"PaidInDays$Telling", "isObeyed", "(ILPaidInDays$Crew;)Z"⟩, 2) := ⟨⟨by decide +kernel, by decide +kernel⟩, List.mem_of_getElem? (i := 121) (by decide +kernel), List.mem_of_getElem? (i := 319) (by decide +kernel), List.mem_of_getElem? (i := 320) (by decide +kernel)⟩
theorem lw_p7 : lw_okq (⟨"PaidInDays$Telling", "hires", "(ILPaidInDays$Crew;)Z"⟩, 2) := ⟨⟨by decide +kernel, by decide +kernel⟩, List.mem_of_getElem? (i := 121) (by decide +kernel), List.mem_of_getElem? (i := 323) (by decide +kernel), List.mem_of_getElem? (i := 324) (by decide +kernel)⟩
theorem lw_p8 : lw_okq (⟨"PaidInDays$Telling", "number", "(II)I"⟩, 2) := ⟨⟨by decide +kernel, by decide +kernel⟩, List.mem_of_getElem? (i := 121) (by decide +kernel), List.mem_of_getElem? (i := 327) (by decide +kernel), List.mem_of_getElem? (i := 328) (by decide +kernel)⟩
theorem lw_p9 : lw_okq (⟨"PaidInDays$Crew", "hasRoom", "()Z"⟩, 9) := ⟨⟨by decide +kernel, by decide +kernel⟩, List.mem_of_getElem? (i := 28) (by decide +kernel), List.mem_of_getElem? (i := 331) (by decide +kernel), List.mem_of_getElem? (i := 332) (by decide +kernel)⟩
theorem lw_p10 : lw_okq (⟨"PaidInDays$Crew", "hire", "(III)V"⟩, 9) := ⟨⟨by decide +kernel, by decide +kernel⟩, List.mem_of_getElem? (i := 28) (by decide +kernel), List.mem_of_getElem? (i := 335) (by decide +kernel), List.mem_of_getElem? (i := 336) (by decide +kernel)⟩
theorem lw_p11 : lw_okq (⟨"PaidInDays$Telling", "changesOff", "(ILPaidInDays$Crew;)Z"⟩, 2) := ⟨⟨by decide +kernel, by decide +kernel⟩, List.mem_of_getElem? (i := 121) (by decide +kernel), List.mem_of_getElem? (i := 340) (by decide +kernel), List.mem_of_getElem? (i := 341) (by decide +kernel)⟩
theorem lw_p12 : lw_okq (⟨"PaidInDays$Crew", "has", "(I)Z"⟩, 9) := ⟨⟨by decide +kernel, by decide +kernel⟩, List.mem_of_getElem? (i := 28) (by decide +kernel), List.mem_of_getElem? (i := 344) (by decide +kernel), List.mem_of_getElem? (i := 345) (by decide +kernel)⟩
theorem lw_p13 : lw_okq (⟨"PaidInDays$Crew", "change", "(II)V"⟩, 9) := ⟨⟨by decide +kernel, by decide +kernel⟩, List.mem_of_getElem? (i := 28) (by decide +kernel), List.mem_of_getElem? (i := 351) (by decide +kernel), List.mem_of_getElem? (i := 352) (by decide +kernel)⟩
theorem lw_p14 : lw_okq (⟨"PaidInDays$Telling", "setsTired", "(ILPaidInDays$Crew;)Z"⟩, 2) := ⟨⟨by decide +kernel, by decide +kernel⟩, List.mem_of_getElem? (i := 121) (by decide +kernel), List.mem_of_getElem? (i := 355) (by decide +kernel), List.mem_of_getElem? (i := 356) (by decide +kernel)⟩
theorem lw_p15 : lw_okq (⟨"PaidInDays$Telling", "handsOver", "(ILPaidInDays$Crew;)Z"⟩, 2) := ⟨⟨by decide +kernel, by decide +kernel⟩, List.mem_of_getElem? (i := 121) (by decide +kernel), List.mem_of_getElem? (i := 359) (by decide +kernel), List.mem_of_getElem? (i := 360) (by decide +kernel)⟩
def lw_privs_1 : List (MethodName × Nat) := [(⟨"PaidInDays$Telling", "isFull", "()Z"⟩, 2), (⟨"PaidInDays", "refuse", "(I)I"⟩, 8), (⟨"PaidInDays$Telling", "add", "(C)V"⟩, 2), (⟨"PaidInDays$Crew", "become", "(LPaidInDays$Crew;)V"⟩, 9), (⟨"PaidInDays$Telling", "firstWrongLetter", "()I"⟩, 2), (⟨"PaidInDays$Telling", "shapeAt", "(I)Ljava/lang/String;"⟩, 2), (⟨"PaidInDays$Telling", "isObeyed", "(ILPaidInDays$Crew;)Z"⟩, 2), (⟨"PaidInDays$Telling", "hires", "(ILPaidInDays$Crew;)Z"⟩, 2), (⟨"PaidInDays$Telling", "number", "(II)I"⟩, 2), (⟨"PaidInDays$Crew", "hasRoom", "()Z"⟩, 9), (⟨"PaidInDays$Crew", "hire", "(III)V"⟩, 9), (⟨"PaidInDays$Telling", "changesOff", "(ILPaidInDays$Crew;)Z"⟩, 2), (⟨"PaidInDays$Crew", "has", "(I)Z"⟩, 9), (⟨"PaidInDays$Crew", "change", "(II)V"⟩, 9), (⟨"PaidInDays$Telling", "setsTired", "(ILPaidInDays$Crew;)Z"⟩, 2), (⟨"PaidInDays$Telling", "handsOver", "(ILPaidInDays$Crew;)Z"⟩, 2)]
theorem lw_r1 : ∀ q ∈ lw_privs_1, lw_okq q := List.forall_mem_cons.mpr ⟨lw_p0, List.forall_mem_cons.mpr ⟨lw_p1, List.forall_mem_cons.mpr ⟨lw_p2, List.forall_mem_cons.mpr ⟨lw_p3, List.forall_mem_cons.mpr ⟨lw_p4, List.forall_mem_cons.mpr ⟨lw_p5, List.forall_mem_cons.mpr ⟨lw_p6, List.forall_mem_cons.mpr ⟨lw_p7, List.forall_mem_cons.mpr ⟨lw_p8, List.forall_mem_cons.mpr ⟨lw_p9, List.forall_mem_cons.mpr ⟨lw_p10, List.forall_mem_cons.mpr ⟨lw_p11, List.forall_mem_cons.mpr ⟨lw_p12, List.forall_mem_cons.mpr ⟨lw_p13, List.forall_mem_cons.mpr ⟨lw_p14, List.forall_mem_cons.mpr ⟨lw_p15, fun _ h => absurd h List.not_mem_nil⟩⟩⟩⟩⟩⟩⟩⟩⟩⟩⟩⟩⟩⟩⟩⟩
theorem lw_p16 : lw_okq (⟨"PaidInDays$Crew", "canHand", "(III)Z"⟩, 9) := ⟨⟨by decide +kernel, by decide +kernel⟩, List.mem_of_getElem? (i := 28) (by decide +kernel), List.mem_of_getElem? (i := 363) (by decide +kernel), List.mem_of_getElem? (i := 364) (by decide +kernel)⟩
theorem lw_p17 : lw_okq (⟨"PaidInDays$Crew", "isOff", "(II)Z"⟩, 9) := ⟨⟨by decide +kernel, by decide +kernel⟩, List.mem_of_getElem? (i := 28) (by decide +kernel), List.mem_of_getElem? (i := 367) (by decide +kernel), List.mem_of_getElem? (i := 368) (by decide +kernel)⟩
theorem lw_p18 : lw_okq (⟨"PaidInDays$Crew", "hand", "(III)V"⟩, 9) := ⟨⟨by decide +kernel, by decide +kernel⟩, List.mem_of_getElem? (i := 28) (by decide +kernel), List.mem_of_getElem? (i := 374) (by decide +kernel), List.mem_of_getElem? (i := 375) (by decide +kernel)⟩
theorem lw_p19 : lw_okq (⟨"PaidInDays$Telling", "letsPass", "(ILPaidInDays$Crew;)Z"⟩, 2) := ⟨⟨by decide +kernel, by decide +kernel⟩, List.mem_of_getElem? (i := 121) (by decide +kernel), List.mem_of_getElem? (i := 379) (by decide +kernel), List.mem_of_getElem? (i := 380) (by decide +kernel)⟩
theorem lw_p20 : lw_okq (⟨"PaidInDays$Crew", "passDays", "(II)I"⟩, 9) := ⟨⟨by decide +kernel, by decide +kernel⟩, List.mem_of_getElem? (i := 28) (by decide +kernel), List.mem_of_getElem? (i := 383) (by decide +kernel), List.mem_of_getElem? (i := 384) (by decide +kernel)⟩
theorem lw_p21 : lw_okq (⟨"PaidInDays$Crew", "isPaidAtWork", "(IZ)Z"⟩, 9) := ⟨⟨by decide +kernel, by decide +kernel⟩, List.mem_of_getElem? (i := 28) (by decide +kernel), List.mem_of_getElem? (i := 388) (by decide +kernel), List.mem_of_getElem? (i := 389) (by decide +kernel)⟩
theorem lw_p22 : lw_okq (⟨"PaidInDays$Crew", "ruleOf", "(I)LPaidInDays$WorkerKind;"⟩, 9) := ⟨⟨by decide +kernel, by decide +kernel⟩, List.mem_of_getElem? (i := 28) (by decide +kernel), List.mem_of_getElem? (i := 393) (by decide +kernel), List.mem_of_getElem? (i := 394) (by decide +kernel)⟩
theorem lw_p23 : lw_okq (⟨"PaidInDays$Crew", "offered", "(II)I"⟩, 9) := ⟨⟨by decide +kernel, by decide +kernel⟩, List.mem_of_getElem? (i := 28) (by decide +kernel), List.mem_of_getElem? (i := 421) (by decide +kernel), List.mem_of_getElem? (i := 422) (by decide +kernel)⟩
theorem lw_p24 : lw_okq (⟨"PaidInDays$Telling", "forget", "()V"⟩, 2) := ⟨⟨by decide +kernel, by decide +kernel⟩, List.mem_of_getElem? (i := 121) (by decide +kernel), List.mem_of_getElem? (i := 466) (by decide +kernel), List.mem_of_getElem? (i := 467) (by decide +kernel)⟩
theorem lw_p25 : lw_okq (⟨"PaidInDays", "areTwo", "(II)Z"⟩, 8) := ⟨⟨by decide +kernel, by decide +kernel⟩, List.mem_of_getElem? (i := 20) (by decide +kernel), List.mem_of_getElem? (i := 498) (by decide +kernel), List.mem_of_getElem? (i := 499) (by decide +kernel)⟩
theorem lw_p26 : lw_okq (⟨"PaidInDays$Crew", "weekday", "()I"⟩, 9) := ⟨⟨by decide +kernel, by decide +kernel⟩, List.mem_of_getElem? (i := 28) (by decide +kernel), List.mem_of_getElem? (i := 525) (by decide +kernel), List.mem_of_getElem? (i := 526) (by decide +kernel)⟩
theorem lw_p27 : lw_okq (⟨"PaidInDays$Crew", "whoIsIn", "(I)I"⟩, 9) := ⟨⟨by decide +kernel, by decide +kernel⟩, List.mem_of_getElem? (i := 28) (by decide +kernel), List.mem_of_getElem? (i := 529) (by decide +kernel), List.mem_of_getElem? (i := 530) (by decide +kernel)⟩
theorem lw_p28 : lw_okq (⟨"PaidInDays", "daysTillFall", "(II)I"⟩, 8) := ⟨⟨by decide +kernel, by decide +kernel⟩, List.mem_of_getElem? (i := 20) (by decide +kernel), List.mem_of_getElem? (i := 537) (by decide +kernel), List.mem_of_getElem? (i := 538) (by decide +kernel)⟩
theorem lw_p29 : lw_okq (⟨"PaidInDays$Crew", "whoFell", "()I"⟩, 9) := ⟨⟨by decide +kernel, by decide +kernel⟩, List.mem_of_getElem? (i := 28) (by decide +kernel), List.mem_of_getElem? (i := 541) (by decide +kernel), List.mem_of_getElem? (i := 542) (by decide +kernel)⟩
theorem lw_p30 : lw_okq (⟨"PaidInDays$Crew", "strikeDay", "()I"⟩, 9) := ⟨⟨by decide +kernel, by decide +kernel⟩, List.mem_of_getElem? (i := 28) (by decide +kernel), List.mem_of_getElem? (i := 554) (by decide +kernel), List.mem_of_getElem? (i := 555) (by decide +kernel)⟩
theorem lw_p31 : lw_okq (⟨"PaidInDays$Crew", "offOn", "(I)I"⟩, 9) := ⟨⟨by decide +kernel, by decide +kernel⟩, List.mem_of_getElem? (i := 28) (by decide +kernel), List.mem_of_getElem? (i := 558) (by decide +kernel), List.mem_of_getElem? (i := 559) (by decide +kernel)⟩
def lw_privs_2 : List (MethodName × Nat) := [(⟨"PaidInDays$Crew", "canHand", "(III)Z"⟩, 9), (⟨"PaidInDays$Crew", "isOff", "(II)Z"⟩, 9), (⟨"PaidInDays$Crew", "hand", "(III)V"⟩, 9), (⟨"PaidInDays$Telling", "letsPass", "(ILPaidInDays$Crew;)Z"⟩, 2), (⟨"PaidInDays$Crew", "passDays", "(II)I"⟩, 9), (⟨"PaidInDays$Crew", "isPaidAtWork", "(IZ)Z"⟩, 9), (⟨"PaidInDays$Crew", "ruleOf", "(I)LPaidInDays$WorkerKind;"⟩, 9), (⟨"PaidInDays$Crew", "offered", "(II)I"⟩, 9), (⟨"PaidInDays$Telling", "forget", "()V"⟩, 2), (⟨"PaidInDays", "areTwo", "(II)Z"⟩, 8), (⟨"PaidInDays$Crew", "weekday", "()I"⟩, 9), (⟨"PaidInDays$Crew", "whoIsIn", "(I)I"⟩, 9), (⟨"PaidInDays", "daysTillFall", "(II)I"⟩, 8), (⟨"PaidInDays$Crew", "whoFell", "()I"⟩, 9), (⟨"PaidInDays$Crew", "strikeDay", "()I"⟩, 9), (⟨"PaidInDays$Crew", "offOn", "(I)I"⟩, 9)]
theorem lw_r2 : ∀ q ∈ lw_privs_2, lw_okq q := List.forall_mem_cons.mpr ⟨lw_p16, List.forall_mem_cons.mpr ⟨lw_p17, List.forall_mem_cons.mpr ⟨lw_p18, List.forall_mem_cons.mpr ⟨lw_p19, List.forall_mem_cons.mpr ⟨lw_p20, List.forall_mem_cons.mpr ⟨lw_p21, List.forall_mem_cons.mpr ⟨lw_p22, List.forall_mem_cons.mpr ⟨lw_p23, List.forall_mem_cons.mpr ⟨lw_p24, List.forall_mem_cons.mpr ⟨lw_p25, List.forall_mem_cons.mpr ⟨lw_p26, List.forall_mem_cons.mpr ⟨lw_p27, List.forall_mem_cons.mpr ⟨lw_p28, List.forall_mem_cons.mpr ⟨lw_p29, List.forall_mem_cons.mpr ⟨lw_p30, List.forall_mem_cons.mpr ⟨lw_p31, fun _ h => absurd h List.not_mem_nil⟩⟩⟩⟩⟩⟩⟩⟩⟩⟩⟩⟩⟩⟩⟩⟩
theorem lw_p32 : lw_okq (⟨"PaidInDays$Crew", "coveredByNobody", "()I"⟩, 9) := ⟨⟨by decide +kernel, by decide +kernel⟩, List.mem_of_getElem? (i := 28) (by decide +kernel), List.mem_of_getElem? (i := 565) (by decide +kernel), List.mem_of_getElem? (i := 566) (by decide +kernel)⟩
theorem lw_p33 : lw_okq (⟨"PaidInDays$Crew", "richest", "()I"⟩, 9) := ⟨⟨by decide +kernel, by decide +kernel⟩, List.mem_of_getElem? (i := 28) (by decide +kernel), List.mem_of_getElem? (i := 569) (by decide +kernel), List.mem_of_getElem? (i := 570) (by decide +kernel)⟩
theorem lw_p34 : lw_okq (⟨"PaidInDays$Crew", "meetings", "(II)I"⟩, 9) := ⟨⟨by decide +kernel, by decide +kernel⟩, List.mem_of_getElem? (i := 28) (by decide +kernel), List.mem_of_getElem? (i := 577) (by decide +kernel), List.mem_of_getElem? (i := 578) (by decide +kernel)⟩
theorem lw_p35 : lw_okq (⟨"PaidInDays", "allTiredBehind", "(I)I"⟩, 8) := ⟨⟨by decide +kernel, by decide +kernel⟩, List.mem_of_getElem? (i := 20) (by decide +kernel), List.mem_of_getElem? (i := 596) (by decide +kernel), List.mem_of_getElem? (i := 597) (by decide +kernel)⟩
theorem lw_p36 : lw_okq (⟨"PaidInDays$Crew", "allTired", "()I"⟩, 9) := ⟨⟨by decide +kernel, by decide +kernel⟩, List.mem_of_getElem? (i := 28) (by decide +kernel), List.mem_of_getElem? (i := 600) (by decide +kernel), List.mem_of_getElem? (i := 601) (by decide +kernel)⟩
theorem lw_p37 : lw_okq (⟨"PaidInDays", "bothTiredBehind", "(III)I"⟩, 8) := ⟨⟨by decide +kernel, by decide +kernel⟩, List.mem_of_getElem? (i := 20) (by decide +kernel), List.mem_of_getElem? (i := 608) (by decide +kernel), List.mem_of_getElem? (i := 609) (by decide +kernel)⟩
theorem lw_p38 : lw_okq (⟨"PaidInDays", "nobodyFalls", "(II)Z"⟩, 8) := ⟨⟨by decide +kernel, by decide +kernel⟩, List.mem_of_getElem? (i := 20) (by decide +kernel), List.mem_of_getElem? (i := 622) (by decide +kernel), List.mem_of_getElem? (i := 623) (by decide +kernel)⟩
theorem lw_p39 : lw_okq (⟨"PaidInDays$Crew", "addOff", "(II)V"⟩, 9) := ⟨⟨by decide +kernel, by decide +kernel⟩, List.mem_of_getElem? (i := 28) (by decide +kernel), List.mem_of_getElem? (i := 626) (by decide +kernel), List.mem_of_getElem? (i := 627) (by decide +kernel)⟩
theorem lw_p40 : lw_okq (⟨"PaidInDays", "wagesBehind", "(II)I"⟩, 8) := ⟨⟨by decide +kernel, by decide +kernel⟩, List.mem_of_getElem? (i := 20) (by decide +kernel), List.mem_of_getElem? (i := 634) (by decide +kernel), List.mem_of_getElem? (i := 635) (by decide +kernel)⟩
theorem lw_p41 : lw_okq (⟨"PaidInDays", "keepsTo", "(III)Z"⟩, 8) := ⟨⟨by decide +kernel, by decide +kernel⟩, List.mem_of_getElem? (i := 20) (by decide +kernel), List.mem_of_getElem? (i := 646) (by decide +kernel), List.mem_of_getElem? (i := 647) (by decide +kernel)⟩
theorem lw_p42 : lw_okq (⟨"PaidInDays", "feltTired", "(III)I"⟩, 8) := ⟨⟨by decide +kernel, by decide +kernel⟩, List.mem_of_getElem? (i := 20) (by decide +kernel), List.mem_of_getElem? (i := 650) (by decide +kernel), List.mem_of_getElem? (i := 651) (by decide +kernel)⟩
theorem lw_p43 : lw_okq (⟨"PaidInDays", "feverRefusal", "(IIIII)I"⟩, 8) := ⟨⟨by decide +kernel, by decide +kernel⟩, List.mem_of_getElem? (i := 20) (by decide +kernel), List.mem_of_getElem? (i := 659) (by decide +kernel), List.mem_of_getElem? (i := 660) (by decide +kernel)⟩
theorem lw_p44 : lw_okq (⟨"PaidInDays", "refuseLong", "(I)J"⟩, 8) := ⟨⟨by decide +kernel, by decide +kernel⟩, List.mem_of_getElem? (i := 20) (by decide +kernel), List.mem_of_getElem? (i := 663) (by decide +kernel), List.mem_of_getElem? (i := 664) (by decide +kernel)⟩
theorem lw_p45 : lw_okq (⟨"PaidInDays", "tiredByFevers", "(III)I"⟩, 8) := ⟨⟨by decide +kernel, by decide +kernel⟩, List.mem_of_getElem? (i := 20) (by decide +kernel), List.mem_of_getElem? (i := 668) (by decide +kernel), List.mem_of_getElem? (i := 669) (by decide +kernel)⟩
theorem lw_p46 : lw_okq (⟨"PaidInDays", "tiresAsTold", "(I)Z"⟩, 8) := ⟨⟨by decide +kernel, by decide +kernel⟩, List.mem_of_getElem? (i := 20) (by decide +kernel), List.mem_of_getElem? (i := 689) (by decide +kernel), List.mem_of_getElem? (i := 690) (by decide +kernel)⟩
theorem lw_p47 : lw_okq (⟨"PaidInDays$Crew", "allOff", "()I"⟩, 9) := ⟨⟨by decide +kernel, by decide +kernel⟩, List.mem_of_getElem? (i := 28) (by decide +kernel), List.mem_of_getElem? (i := 729) (by decide +kernel), List.mem_of_getElem? (i := 730) (by decide +kernel)⟩
def lw_privs_3 : List (MethodName × Nat) := [(⟨"PaidInDays$Crew", "coveredByNobody", "()I"⟩, 9), (⟨"PaidInDays$Crew", "richest", "()I"⟩, 9), (⟨"PaidInDays$Crew", "meetings", "(II)I"⟩, 9), (⟨"PaidInDays", "allTiredBehind", "(I)I"⟩, 8), (⟨"PaidInDays$Crew", "allTired", "()I"⟩, 9), (⟨"PaidInDays", "bothTiredBehind", "(III)I"⟩, 8), (⟨"PaidInDays", "nobodyFalls", "(II)Z"⟩, 8), (⟨"PaidInDays$Crew", "addOff", "(II)V"⟩, 9), (⟨"PaidInDays", "wagesBehind", "(II)I"⟩, 8), (⟨"PaidInDays", "keepsTo", "(III)Z"⟩, 8), (⟨"PaidInDays", "feltTired", "(III)I"⟩, 8), (⟨"PaidInDays", "feverRefusal", "(IIIII)I"⟩, 8), (⟨"PaidInDays", "refuseLong", "(I)J"⟩, 8), (⟨"PaidInDays", "tiredByFevers", "(III)I"⟩, 8), (⟨"PaidInDays", "tiresAsTold", "(I)Z"⟩, 8), (⟨"PaidInDays$Crew", "allOff", "()I"⟩, 9)]
theorem lw_r3 : ∀ q ∈ lw_privs_3, lw_okq q := List.forall_mem_cons.mpr ⟨lw_p32, List.forall_mem_cons.mpr ⟨lw_p33, List.forall_mem_cons.mpr ⟨lw_p34, List.forall_mem_cons.mpr ⟨lw_p35, List.forall_mem_cons.mpr ⟨lw_p36, List.forall_mem_cons.mpr ⟨lw_p37, List.forall_mem_cons.mpr ⟨lw_p38, List.forall_mem_cons.mpr ⟨lw_p39, List.forall_mem_cons.mpr ⟨lw_p40, List.forall_mem_cons.mpr ⟨lw_p41, List.forall_mem_cons.mpr ⟨lw_p42, List.forall_mem_cons.mpr ⟨lw_p43, List.forall_mem_cons.mpr ⟨lw_p44, List.forall_mem_cons.mpr ⟨lw_p45, List.forall_mem_cons.mpr ⟨lw_p46, List.forall_mem_cons.mpr ⟨lw_p47, fun _ h => absurd h List.not_mem_nil⟩⟩⟩⟩⟩⟩⟩⟩⟩⟩⟩⟩⟩⟩⟩⟩
theorem lw_p48 : lw_okq (⟨"PaidInDaysModel", "no", "(I)I"⟩, 13) := ⟨⟨by decide +kernel, by decide +kernel⟩, List.mem_of_getElem? (i := 733) (by decide +kernel), List.mem_of_getElem? (i := 783) (by decide +kernel), List.mem_of_getElem? (i := 784) (by decide +kernel)⟩
theorem lw_p49 : lw_okq (⟨"PaidInDaysModel", "readsStatement", "()Z"⟩, 13) := ⟨⟨by decide +kernel, by decide +kernel⟩, List.mem_of_getElem? (i := 733) (by decide +kernel), List.mem_of_getElem? (i := 791) (by decide +kernel), List.mem_of_getElem? (i := 792) (by decide +kernel)⟩
theorem lw_p50 : lw_okq (⟨"PaidInDaysModel", "here", "()I"⟩, 13) := ⟨⟨by decide +kernel, by decide +kernel⟩, List.mem_of_getElem? (i := 733) (by decide +kernel), List.mem_of_getElem? (i := 795) (by decide +kernel), List.mem_of_getElem? (i := 796) (by decide +kernel)⟩
theorem lw_p51 : lw_okq (⟨"PaidInDaysModel", "readsKind", "()Z"⟩, 13) := ⟨⟨by decide +kernel, by decide +kernel⟩, List.mem_of_getElem? (i := 733) (by decide +kernel), List.mem_of_getElem? (i := 799) (by decide +kernel), List.mem_of_getElem? (i := 800) (by decide +kernel)⟩
theorem lw_p52 : lw_okq (⟨"PaidInDaysModel", "readsNumber", "(II)Z"⟩, 13) := ⟨⟨by decide +kernel, by decide +kernel⟩, List.mem_of_getElem? (i := 733) (by decide +kernel), List.mem_of_getElem? (i := 806) (by decide +kernel), List.mem_of_getElem? (i := 807) (by decide +kernel)⟩
theorem lw_p53 : lw_okq (⟨"PaidInDaysModel", "isDone", "(I)Z"⟩, 13) := ⟨⟨by decide +kernel, by decide +kernel⟩, List.mem_of_getElem? (i := 733) (by decide +kernel), List.mem_of_getElem? (i := 816) (by decide +kernel), List.mem_of_getElem? (i := 817) (by decide +kernel)⟩
theorem lw_p54 : lw_okq (⟨"PaidInDaysModel", "isWorker", "(I)Z"⟩, 13) := ⟨⟨by decide +kernel, by decide +kernel⟩, List.mem_of_getElem? (i := 733) (by decide +kernel), List.mem_of_getElem? (i := 823) (by decide +kernel), List.mem_of_getElem? (i := 824) (by decide +kernel)⟩
theorem lw_p55 : lw_okq (⟨"PaidInDaysModel", "canGive", "(III)Z"⟩, 13) := ⟨⟨by decide +kernel, by decide +kernel⟩, List.mem_of_getElem? (i := 733) (by decide +kernel), List.mem_of_getElem? (i := 830) (by decide +kernel), List.mem_of_getElem? (i := 831) (by decide +kernel)⟩
theorem lw_p56 : lw_okq (⟨"PaidInDaysModel", "takes", "(I)V"⟩, 13) := ⟨⟨by decide +kernel, by decide +kernel⟩, List.mem_of_getElem? (i := 733) (by decide +kernel), List.mem_of_getElem? (i := 911) (by decide +kernel), List.mem_of_getElem? (i := 912) (by decide +kernel)⟩
theorem lw_p57 : lw_okq (⟨"PaidInDaysModel", "firstFalls", "()I"⟩, 13) := ⟨⟨by decide +kernel, by decide +kernel⟩, List.mem_of_getElem? (i := 733) (by decide +kernel), List.mem_of_getElem? (i := 926) (by decide +kernel), List.mem_of_getElem? (i := 927) (by decide +kernel)⟩
theorem lw_p58 : lw_okq (⟨"PaidInDaysModel", "fallsOf", "(I)I"⟩, 13) := ⟨⟨by decide +kernel, by decide +kernel⟩, List.mem_of_getElem? (i := 733) (by decide +kernel), List.mem_of_getElem? (i := 931) (by decide +kernel), List.mem_of_getElem? (i := 932) (by decide +kernel)⟩
theorem lw_p59 : lw_okq (⟨"PaidInDaysModel", "isPaidDay", "()Z"⟩, 13) := ⟨⟨by decide +kernel, by decide +kernel⟩, List.mem_of_getElem? (i := 733) (by decide +kernel), List.mem_of_getElem? (i := 939) (by decide +kernel), List.mem_of_getElem? (i := 940) (by decide +kernel)⟩
theorem lw_p60 : lw_okq (⟨"PaidInDaysModel", "offOn", "(I)I"⟩, 13) := ⟨⟨by decide +kernel, by decide +kernel⟩, List.mem_of_getElem? (i := 733) (by decide +kernel), List.mem_of_getElem? (i := 950) (by decide +kernel), List.mem_of_getElem? (i := 951) (by decide +kernel)⟩
theorem lw_p61 : lw_okq (⟨"PaidInDaysModel", "bothIn", "(II)I"⟩, 13) := ⟨⟨by decide +kernel, by decide +kernel⟩, List.mem_of_getElem? (i := 733) (by decide +kernel), List.mem_of_getElem? (i := 958) (by decide +kernel), List.mem_of_getElem? (i := 959) (by decide +kernel)⟩
theorem lw_p62 : lw_okq (⟨"PaidInDaysModel", "tiredNow", "(I)I"⟩, 13) := ⟨⟨by decide +kernel, by decide +kernel⟩, List.mem_of_getElem? (i := 733) (by decide +kernel), List.mem_of_getElem? (i := 974) (by decide +kernel), List.mem_of_getElem? (i := 975) (by decide +kernel)⟩
theorem lw_p63 : lw_okq (⟨"PaidInDaysModel", "doesNobodyFall", "(I)Z"⟩, 13) := ⟨⟨by decide +kernel, by decide +kernel⟩, List.mem_of_getElem? (i := 733) (by decide +kernel), List.mem_of_getElem? (i := 993) (by decide +kernel), List.mem_of_getElem? (i := 994) (by decide +kernel)⟩
def lw_privs_4 : List (MethodName × Nat) := [(⟨"PaidInDaysModel", "no", "(I)I"⟩, 13), (⟨"PaidInDaysModel", "readsStatement", "()Z"⟩, 13), (⟨"PaidInDaysModel", "here", "()I"⟩, 13), (⟨"PaidInDaysModel", "readsKind", "()Z"⟩, 13), (⟨"PaidInDaysModel", "readsNumber", "(II)Z"⟩, 13), (⟨"PaidInDaysModel", "isDone", "(I)Z"⟩, 13), (⟨"PaidInDaysModel", "isWorker", "(I)Z"⟩, 13), (⟨"PaidInDaysModel", "canGive", "(III)Z"⟩, 13), (⟨"PaidInDaysModel", "takes", "(I)V"⟩, 13), (⟨"PaidInDaysModel", "firstFalls", "()I"⟩, 13), (⟨"PaidInDaysModel", "fallsOf", "(I)I"⟩, 13), (⟨"PaidInDaysModel", "isPaidDay", "()Z"⟩, 13), (⟨"PaidInDaysModel", "offOn", "(I)I"⟩, 13), (⟨"PaidInDaysModel", "bothIn", "(II)I"⟩, 13), (⟨"PaidInDaysModel", "tiredNow", "(I)I"⟩, 13), (⟨"PaidInDaysModel", "doesNobodyFall", "(I)Z"⟩, 13)]
theorem lw_r4 : ∀ q ∈ lw_privs_4, lw_okq q := List.forall_mem_cons.mpr ⟨lw_p48, List.forall_mem_cons.mpr ⟨lw_p49, List.forall_mem_cons.mpr ⟨lw_p50, List.forall_mem_cons.mpr ⟨lw_p51, List.forall_mem_cons.mpr ⟨lw_p52, List.forall_mem_cons.mpr ⟨lw_p53, List.forall_mem_cons.mpr ⟨lw_p54, List.forall_mem_cons.mpr ⟨lw_p55, List.forall_mem_cons.mpr ⟨lw_p56, List.forall_mem_cons.mpr ⟨lw_p57, List.forall_mem_cons.mpr ⟨lw_p58, List.forall_mem_cons.mpr ⟨lw_p59, List.forall_mem_cons.mpr ⟨lw_p60, List.forall_mem_cons.mpr ⟨lw_p61, List.forall_mem_cons.mpr ⟨lw_p62, List.forall_mem_cons.mpr ⟨lw_p63, fun _ h => absurd h List.not_mem_nil⟩⟩⟩⟩⟩⟩⟩⟩⟩⟩⟩⟩⟩⟩⟩⟩
theorem lw_p64 : lw_okq (⟨"PaidInDaysModel", "costBy", "(IIIIII)I"⟩, 13) := ⟨⟨by decide +kernel, by decide +kernel⟩, List.mem_of_getElem? (i := 733) (by decide +kernel), List.mem_of_getElem? (i := 1009) (by decide +kernel), List.mem_of_getElem? (i := 1010) (by decide +kernel)⟩
theorem lw_p65 : lw_okq (⟨"PaidInDaysModel", "noWide", "(I)J"⟩, 13) := ⟨⟨by decide +kernel, by decide +kernel⟩, List.mem_of_getElem? (i := 733) (by decide +kernel), List.mem_of_getElem? (i := 1017) (by decide +kernel), List.mem_of_getElem? (i := 1018) (by decide +kernel)⟩
theorem lw_p66 : lw_okq (⟨"PaidInDaysModel", "drawn", "(I)I"⟩, 13) := ⟨⟨by decide +kernel, by decide +kernel⟩, List.mem_of_getElem? (i := 733) (by decide +kernel), List.mem_of_getElem? (i := 1052) (by decide +kernel), List.mem_of_getElem? (i := 1053) (by decide +kernel)⟩
def lw_privs_5 : List (MethodName × Nat) := [(⟨"PaidInDaysModel", "costBy", "(IIIIII)I"⟩, 13), (⟨"PaidInDaysModel", "noWide", "(I)J"⟩, 13), (⟨"PaidInDaysModel", "drawn", "(I)I"⟩, 13)]
theorem lw_r5 : ∀ q ∈ lw_privs_5, lw_okq q := List.forall_mem_cons.mpr ⟨lw_p64, List.forall_mem_cons.mpr ⟨lw_p65, List.forall_mem_cons.mpr ⟨lw_p66, fun _ h => absurd h List.not_mem_nil⟩⟩⟩
def lw_privs : List (MethodName × Nat) := lw_privs_1 ++ (lw_privs_2 ++ (lw_privs_3 ++ (lw_privs_4 ++ (lw_privs_5))))
def lw_tbl : List Cond := k2_sels lw_privs ++ tables_1
theorem lw_privs_ok : ∀ q ∈ lw_privs, lw_okq q := by
  show ∀ q ∈ lw_privs_1 ++ (lw_privs_2 ++ (lw_privs_3 ++ (lw_privs_4 ++ (lw_privs_5)))), lw_okq q
  exact List.forall_mem_append.mpr ⟨lw_r1, List.forall_mem_append.mpr ⟨lw_r2, List.forall_mem_append.mpr ⟨lw_r3, List.forall_mem_append.mpr ⟨lw_r4, lw_r5⟩⟩⟩⟩
-- ===== end of PART A; then your names; then what follows =====
def RX0 : String := "PaidInDays$BoyKind"
def TX0 : u_T := fun k => match k with
  | _ => ("", "", "", false)
def tyX0 : Nat → FieldType := fun k => match k with
  | _ => .int
abbrev wsX00 : List Cond := u_ws RX0 TX0 0
theorem nmX0 : ∀ a, a < 0 → ∀ b, b < 0 → a ≠ b → (TX0 a).2.1 ≠ (TX0 b).2.1 := by decide +kernel
theorem tyX0_ok : ∀ k, k < 0 → parseFieldDescriptor (TX0 k).2.2.1 = some (tyX0 k) := by decide +kernel
abbrev cX0_init : ByteArray := prog_2_method_1_code
def yX0_init : MethodName := ⟨RX0, "<init>", "()V"⟩
abbrev cX0_dueAfter : ByteArray := prog_2_method_2_code
def yX0_dueAfter : MethodName := ⟨RX0, "dueAfter", "(I)I"⟩
abbrev cX0_choosePayer : ByteArray := prog_2_method_3_code
def yX0_choosePayer : MethodName := ⟨RX0, "choosePayer", "(LPaidInDays$Crew;I)I"⟩
def RX1 : String := "PaidInDays$Crew"
def TX1 : u_T := fun k => match k with
  | 0 => ("PaidInDays$Crew", "kinds", "[LPaidInDays$WorkerKind;", true)
  | 1 => ("PaidInDays$Crew", "kind", "[I", true)
  | 2 => ("PaidInDays$Crew", "figure", "[I", true)
  | 3 => ("PaidInDays$Crew", "off", "[I", true)
  | 4 => ("PaidInDays$Crew", "tired", "[I", true)
  | 5 => ("PaidInDays$Crew", "due", "[I", true)
  | 6 => ("PaidInDays$Crew", "size", "I", false)
  | 7 => ("PaidInDays$Crew", "wages", "I", false)
  | _ => ("PaidInDays$Crew", "day", "I", false)
def tyX1 : Nat → FieldType := fun k => match k with
  | 0 => .array (.object "PaidInDays$WorkerKind")
  | 1 => .array .int
  | 2 => .array .int
  | 3 => .array .int
  | 4 => .array .int
  | 5 => .array .int
  | 6 => .int
  | 7 => .int
  | _ => .int
abbrev wsX10 : List Cond := u_ws RX1 TX1 9
theorem nmX1 : ∀ a, a < 9 → ∀ b, b < 9 → a ≠ b → (TX1 a).2.1 ≠ (TX1 b).2.1 := by decide +kernel
theorem tyX1_ok : ∀ k, k < 9 → parseFieldDescriptor (TX1 k).2.2.1 = some (tyX1 k) := by decide +kernel
abbrev cX1_init : ByteArray := prog_3_method_1_code
def yX1_init : MethodName := ⟨RX1, "<init>", "()V"⟩
abbrev cX1_become : ByteArray := prog_3_method_2_code
def yX1_become : MethodName := ⟨RX1, "become", "(LPaidInDays$Crew;)V"⟩
abbrev cX1_hasRoom : ByteArray := prog_3_method_3_code
def yX1_hasRoom : MethodName := ⟨RX1, "hasRoom", "()Z"⟩
abbrev cX1_hire : ByteArray := prog_3_method_4_code
def yX1_hire : MethodName := ⟨RX1, "hire", "(III)V"⟩
abbrev cX1_has : ByteArray := prog_3_method_5_code
def yX1_has : MethodName := ⟨RX1, "has", "(I)Z"⟩
abbrev cX1_weekday : ByteArray := prog_3_method_6_code
def yX1_weekday : MethodName := ⟨RX1, "weekday", "()I"⟩
abbrev cX1_isOff : ByteArray := prog_3_method_7_code
def yX1_isOff : MethodName := ⟨RX1, "isOff", "(II)Z"⟩
abbrev cX1_change : ByteArray := prog_3_method_8_code
def yX1_change : MethodName := ⟨RX1, "change", "(II)V"⟩
abbrev cX1_canHand : ByteArray := prog_3_method_9_code
def yX1_canHand : MethodName := ⟨RX1, "canHand", "(III)Z"⟩
abbrev cX1_hand : ByteArray := prog_3_method_10_code
def yX1_hand : MethodName := ⟨RX1, "hand", "(III)V"⟩
abbrev cX1_addOff : ByteArray := prog_3_method_11_code
def yX1_addOff : MethodName := ⟨RX1, "addOff", "(II)V"⟩
abbrev cX1_passDays : ByteArray := prog_3_method_12_code
def yX1_passDays : MethodName := ⟨RX1, "passDays", "(II)I"⟩
abbrev cX1_isPaidAtWork : ByteArray := prog_3_method_13_code
def yX1_isPaidAtWork : MethodName := ⟨RX1, "isPaidAtWork", "(IZ)Z"⟩
abbrev cX1_ruleOf : ByteArray := prog_3_method_14_code
def yX1_ruleOf : MethodName := ⟨RX1, "ruleOf", "(I)LPaidInDays$WorkerKind;"⟩
abbrev cX1_offered : ByteArray := prog_3_method_15_code
def yX1_offered : MethodName := ⟨RX1, "offered", "(II)I"⟩
abbrev cX1_whoIsIn : ByteArray := prog_3_method_16_code
def yX1_whoIsIn : MethodName := ⟨RX1, "whoIsIn", "(I)I"⟩
abbrev cX1_whoFell : ByteArray := prog_3_method_17_code
def yX1_whoFell : MethodName := ⟨RX1, "whoFell", "()I"⟩
abbrev cX1_offOn : ByteArray := prog_3_method_18_code
def yX1_offOn : MethodName := ⟨RX1, "offOn", "(I)I"⟩
abbrev cX1_strikeDay : ByteArray := prog_3_method_19_code
def yX1_strikeDay : MethodName := ⟨RX1, "strikeDay", "()I"⟩
abbrev cX1_coveredByNobody : ByteArray := prog_3_method_20_code
def yX1_coveredByNobody : MethodName := ⟨RX1, "coveredByNobody", "()I"⟩
abbrev cX1_richest : ByteArray := prog_3_method_21_code
def yX1_richest : MethodName := ⟨RX1, "richest", "()I"⟩
abbrev cX1_meetings : ByteArray := prog_3_method_22_code
def yX1_meetings : MethodName := ⟨RX1, "meetings", "(II)I"⟩
abbrev cX1_allOff : ByteArray := prog_3_method_23_code
def yX1_allOff : MethodName := ⟨RX1, "allOff", "()I"⟩
abbrev cX1_allTired : ByteArray := prog_3_method_24_code
def yX1_allTired : MethodName := ⟨RX1, "allTired", "()I"⟩
def RX2 : String := "PaidInDays$ForemanKind"
def TX2 : u_T := fun k => match k with
  | _ => ("", "", "", false)
def tyX2 : Nat → FieldType := fun k => match k with
  | _ => .int
abbrev wsX20 : List Cond := u_ws RX2 TX2 0
theorem nmX2 : ∀ a, a < 0 → ∀ b, b < 0 → a ≠ b → (TX2 a).2.1 ≠ (TX2 b).2.1 := by decide +kernel
theorem tyX2_ok : ∀ k, k < 0 → parseFieldDescriptor (TX2 k).2.2.1 = some (tyX2 k) := by decide +kernel
abbrev cX2_init : ByteArray := prog_4_method_1_code
def yX2_init : MethodName := ⟨RX2, "<init>", "()V"⟩
abbrev cX2_dueAfter : ByteArray := prog_4_method_2_code
def yX2_dueAfter : MethodName := ⟨RX2, "dueAfter", "(I)I"⟩
abbrev cX2_choosePayer : ByteArray := prog_4_method_3_code
def yX2_choosePayer : MethodName := ⟨RX2, "choosePayer", "(LPaidInDays$Crew;I)I"⟩
def RX3 : String := "PaidInDays$HardKind"
def TX3 : u_T := fun k => match k with
  | _ => ("", "", "", false)
def tyX3 : Nat → FieldType := fun k => match k with
  | _ => .int
abbrev wsX30 : List Cond := u_ws RX3 TX3 0
theorem nmX3 : ∀ a, a < 0 → ∀ b, b < 0 → a ≠ b → (TX3 a).2.1 ≠ (TX3 b).2.1 := by decide +kernel
theorem tyX3_ok : ∀ k, k < 0 → parseFieldDescriptor (TX3 k).2.2.1 = some (tyX3 k) := by decide +kernel
abbrev cX3_init : ByteArray := prog_5_method_1_code
def yX3_init : MethodName := ⟨RX3, "<init>", "()V"⟩
abbrev cX3_choosePayer : ByteArray := prog_5_method_2_code
def yX3_choosePayer : MethodName := ⟨RX3, "choosePayer", "(LPaidInDays$Crew;I)I"⟩
def RX4 : String := "PaidInDays$MildKind"
def TX4 : u_T := fun k => match k with
  | _ => ("", "", "", false)
def tyX4 : Nat → FieldType := fun k => match k with
  | _ => .int
abbrev wsX40 : List Cond := u_ws RX4 TX4 0
theorem nmX4 : ∀ a, a < 0 → ∀ b, b < 0 → a ≠ b → (TX4 a).2.1 ≠ (TX4 b).2.1 := by decide +kernel
theorem tyX4_ok : ∀ k, k < 0 → parseFieldDescriptor (TX4 k).2.2.1 = some (tyX4 k) := by decide +kernel
abbrev cX4_init : ByteArray := prog_6_method_1_code
def yX4_init : MethodName := ⟨RX4, "<init>", "()V"⟩
abbrev cX4_dueAfter : ByteArray := prog_6_method_2_code
def yX4_dueAfter : MethodName := ⟨RX4, "dueAfter", "(I)I"⟩
def RX5 : String := "PaidInDays$Telling"
def TX5 : u_T := fun k => match k with
  | 0 => ("PaidInDays$Telling", "letters", "[C", true)
  | _ => ("PaidInDays$Telling", "size", "I", false)
def tyX5 : Nat → FieldType := fun k => match k with
  | 0 => .array .char
  | _ => .int
abbrev wsX50 : List Cond := u_ws RX5 TX5 2
theorem nmX5 : ∀ a, a < 2 → ∀ b, b < 2 → a ≠ b → (TX5 a).2.1 ≠ (TX5 b).2.1 := by decide +kernel
theorem tyX5_ok : ∀ k, k < 2 → parseFieldDescriptor (TX5 k).2.2.1 = some (tyX5 k) := by decide +kernel
abbrev cX5_init : ByteArray := prog_7_method_1_code
def yX5_init : MethodName := ⟨RX5, "<init>", "()V"⟩
abbrev cX5_isFull : ByteArray := prog_7_method_2_code
def yX5_isFull : MethodName := ⟨RX5, "isFull", "()Z"⟩
abbrev cX5_add : ByteArray := prog_7_method_3_code
def yX5_add : MethodName := ⟨RX5, "add", "(C)V"⟩
abbrev cX5_forget : ByteArray := prog_7_method_4_code
def yX5_forget : MethodName := ⟨RX5, "forget", "()V"⟩
abbrev cX5_firstWrongLetter : ByteArray := prog_7_method_5_code
def yX5_firstWrongLetter : MethodName := ⟨RX5, "firstWrongLetter", "()I"⟩
abbrev cX5_shapeAt : ByteArray := prog_7_method_6_code
def yX5_shapeAt : MethodName := ⟨RX5, "shapeAt", "(I)Ljava/lang/String;"⟩
abbrev cX5_isAs : ByteArray := prog_7_method_7_code
def yX5_isAs : MethodName := ⟨RX5, "isAs", "(CC)Z"⟩
abbrev cX5_number : ByteArray := prog_7_method_8_code
def yX5_number : MethodName := ⟨RX5, "number", "(II)I"⟩
abbrev cX5_isObeyed : ByteArray := prog_7_method_9_code
def yX5_isObeyed : MethodName := ⟨RX5, "isObeyed", "(ILPaidInDays$Crew;)Z"⟩
abbrev cX5_hires : ByteArray := prog_7_method_10_code
def yX5_hires : MethodName := ⟨RX5, "hires", "(ILPaidInDays$Crew;)Z"⟩
abbrev cX5_changesOff : ByteArray := prog_7_method_11_code
def yX5_changesOff : MethodName := ⟨RX5, "changesOff", "(ILPaidInDays$Crew;)Z"⟩
abbrev cX5_setsTired : ByteArray := prog_7_method_12_code
def yX5_setsTired : MethodName := ⟨RX5, "setsTired", "(ILPaidInDays$Crew;)Z"⟩
abbrev cX5_handsOver : ByteArray := prog_7_method_13_code
def yX5_handsOver : MethodName := ⟨RX5, "handsOver", "(ILPaidInDays$Crew;)Z"⟩
abbrev cX5_letsPass : ByteArray := prog_7_method_14_code
def yX5_letsPass : MethodName := ⟨RX5, "letsPass", "(ILPaidInDays$Crew;)Z"⟩
def RX6 : String := "PaidInDays$TraderKind"
def TX6 : u_T := fun k => match k with
  | _ => ("", "", "", false)
def tyX6 : Nat → FieldType := fun k => match k with
  | _ => .int
abbrev wsX60 : List Cond := u_ws RX6 TX6 0
theorem nmX6 : ∀ a, a < 0 → ∀ b, b < 0 → a ≠ b → (TX6 a).2.1 ≠ (TX6 b).2.1 := by decide +kernel
theorem tyX6_ok : ∀ k, k < 0 → parseFieldDescriptor (TX6 k).2.2.1 = some (tyX6 k) := by decide +kernel
abbrev cX6_init : ByteArray := prog_8_method_1_code
def yX6_init : MethodName := ⟨RX6, "<init>", "()V"⟩
abbrev cX6_chooseWeekday : ByteArray := prog_8_method_2_code
def yX6_chooseWeekday : MethodName := ⟨RX6, "chooseWeekday", "(I)I"⟩
def RX7 : String := "PaidInDays$WorkerKind"
def TX7 : u_T := fun k => match k with
  | _ => ("", "", "", false)
def tyX7 : Nat → FieldType := fun k => match k with
  | _ => .int
abbrev wsX70 : List Cond := u_ws RX7 TX7 0
theorem nmX7 : ∀ a, a < 0 → ∀ b, b < 0 → a ≠ b → (TX7 a).2.1 ≠ (TX7 b).2.1 := by decide +kernel
theorem tyX7_ok : ∀ k, k < 0 → parseFieldDescriptor (TX7 k).2.2.1 = some (tyX7 k) := by decide +kernel
abbrev cX7_init : ByteArray := prog_9_method_1_code
def yX7_init : MethodName := ⟨RX7, "<init>", "()V"⟩
abbrev cX7_dueAfter : ByteArray := prog_9_method_2_code
def yX7_dueAfter : MethodName := ⟨RX7, "dueAfter", "(I)I"⟩
abbrev cX7_choosePayer : ByteArray := prog_9_method_3_code
def yX7_choosePayer : MethodName := ⟨RX7, "choosePayer", "(LPaidInDays$Crew;I)I"⟩
abbrev cX7_chooseWeekday : ByteArray := prog_9_method_4_code
def yX7_chooseWeekday : MethodName := ⟨RX7, "chooseWeekday", "(I)I"⟩
def RX8 : String := "PaidInDays"
def TX8 : u_T := fun k => match k with
  | 0 => ("PaidInDays", "now", "LPaidInDays$Crew;", true)
  | 1 => ("PaidInDays", "mind", "LPaidInDays$Crew;", true)
  | 2 => ("PaidInDays", "kept", "LPaidInDays$Crew;", true)
  | 3 => ("PaidInDays", "hasKept", "Z", false)
  | 4 => ("PaidInDays", "telling", "LPaidInDays$Telling;", true)
  | 5 => ("PaidInDays", "told", "[I", true)
  | 6 => ("PaidInDays", "toldCount", "I", false)
  | _ => ("PaidInDays", "refusals", "[I", true)
def tyX8 : Nat → FieldType := fun k => match k with
  | 0 => .object "PaidInDays$Crew"
  | 1 => .object "PaidInDays$Crew"
  | 2 => .object "PaidInDays$Crew"
  | 3 => .boolean
  | 4 => .object "PaidInDays$Telling"
  | 5 => .array .int
  | 6 => .int
  | _ => .array .int
abbrev wsX80 : List Cond := u_ws RX8 TX8 8
theorem nmX8 : ∀ a, a < 8 → ∀ b, b < 8 → a ≠ b → (TX8 a).2.1 ≠ (TX8 b).2.1 := by decide +kernel
theorem tyX8_ok : ∀ k, k < 8 → parseFieldDescriptor (TX8 k).2.2.1 = some (tyX8 k) := by decide +kernel
abbrev cX8_init : ByteArray := prog_1_method_1_code
def yX8_init : MethodName := ⟨RX8, "<init>", "()V"⟩
abbrev cX8_letter : ByteArray := prog_1_method_2_code
def yX8_letter : MethodName := ⟨RX8, "letter", "(I)I"⟩
abbrev cX8_works : ByteArray := prog_1_method_3_code
def yX8_works : MethodName := ⟨RX8, "works", "()I"⟩
abbrev cX8_worker : ByteArray := prog_1_method_4_code
def yX8_worker : MethodName := ⟨RX8, "worker", "(II)I"⟩
abbrev cX8_from : ByteArray := prog_1_method_5_code
def yX8_from : MethodName := ⟨RX8, "from", "(II)I"⟩
abbrev cX8_frees : ByteArray := prog_1_method_6_code
def yX8_frees : MethodName := ⟨RX8, "frees", "(II)I"⟩
abbrev cX8_gives : ByteArray := prog_1_method_7_code
def yX8_gives : MethodName := ⟨RX8, "gives", "(III)I"⟩
abbrev cX8_rests : ByteArray := prog_1_method_8_code
def yX8_rests : MethodName := ⟨RX8, "rests", "(II)I"⟩
abbrev cX8_turn : ByteArray := prog_1_method_9_code
def yX8_turn : MethodName := ⟨RX8, "turn", "(III)I"⟩
abbrev cX8_days : ByteArray := prog_1_method_10_code
def yX8_days : MethodName := ⟨RX8, "days", "(I)I"⟩
abbrev cX8_workerThen : ByteArray := prog_1_method_11_code
def yX8_workerThen : MethodName := ⟨RX8, "workerThen", "(III)I"⟩
abbrev cX8_then : ByteArray := prog_1_method_12_code
def yX8_then : MethodName := ⟨RX8, "then", "(II)I"⟩
abbrev cX8_falls : ByteArray := prog_1_method_13_code
def yX8_falls : MethodName := ⟨RX8, "falls", "(I)I"⟩
abbrev cX8_still : ByteArray := prog_1_method_14_code
def yX8_still : MethodName := ⟨RX8, "still", "()I"⟩
abbrev cX8_strike : ByteArray := prog_1_method_15_code
def yX8_strike : MethodName := ⟨RX8, "strike", "(I)I"⟩
abbrev cX8_meet : ByteArray := prog_1_method_16_code
def yX8_meet : MethodName := ⟨RX8, "meet", "(II)I"⟩
abbrev cX8_never : ByteArray := prog_1_method_17_code
def yX8_never : MethodName := ⟨RX8, "never", "(I)I"⟩
abbrev cX8_rest : ByteArray := prog_1_method_18_code
def yX8_rest : MethodName := ⟨RX8, "rest", "(I)I"⟩
abbrev cX8_gift : ByteArray := prog_1_method_19_code
def yX8_gift : MethodName := ⟨RX8, "gift", "(III)I"⟩
abbrev cX8_trade : ByteArray := prog_1_method_20_code
def yX8_trade : MethodName := ⟨RX8, "trade", "(III)I"⟩
abbrev cX8_better : ByteArray := prog_1_method_21_code
def yX8_better : MethodName := ⟨RX8, "better", "(III)I"⟩
abbrev cX8_fewest : ByteArray := prog_1_method_22_code
def yX8_fewest : MethodName := ⟨RX8, "fewest", "(I)I"⟩
abbrev cX8_send : ByteArray := prog_1_method_23_code
def yX8_send : MethodName := ⟨RX8, "send", "(I)I"⟩
abbrev cX8_holiday : ByteArray := prog_1_method_24_code
def yX8_holiday : MethodName := ⟨RX8, "holiday", "(II)I"⟩
abbrev cX8_two : ByteArray := prog_1_method_25_code
def yX8_two : MethodName := ⟨RX8, "two", "(III)I"⟩
abbrev cX8_fever : ByteArray := prog_1_method_26_code
def yX8_fever : MethodName := ⟨RX8, "fever", "(IIIII)J"⟩
abbrev cX8_mean : ByteArray := prog_1_method_27_code
def yX8_mean : MethodName := ⟨RX8, "mean", "(I)J"⟩
abbrev cX8_whatIs : ByteArray := prog_1_method_28_code
def yX8_whatIs : MethodName := ⟨RX8, "whatIs", "(II)I"⟩
abbrev cX8_row : ByteArray := prog_1_method_29_code
def yX8_row : MethodName := ⟨RX8, "row", "(I)I"⟩
abbrev cX8_judge : ByteArray := prog_1_method_30_code
def yX8_judge : MethodName := ⟨RX8, "judge", "()I"⟩
abbrev cX8_clear : ByteArray := prog_1_method_31_code
def yX8_clear : MethodName := ⟨RX8, "clear", "()I"⟩
abbrev cX8_lots : ByteArray := prog_1_method_32_code
def yX8_lots : MethodName := ⟨RX8, "lots", "(III)I"⟩
abbrev cX8_image : ByteArray := prog_1_method_33_code
def yX8_image : MethodName := ⟨RX8, "image", "()I"⟩
abbrev cX8_on : ByteArray := prog_1_method_34_code
def yX8_on : MethodName := ⟨RX8, "on", "()I"⟩
abbrev cX8_count : ByteArray := prog_1_method_35_code
def yX8_count : MethodName := ⟨RX8, "count", "(I)I"⟩
abbrev cX8_refuse : ByteArray := prog_1_method_36_code
def yX8_refuse : MethodName := ⟨RX8, "refuse", "(I)I"⟩
abbrev cX8_refuseLong : ByteArray := prog_1_method_37_code
def yX8_refuseLong : MethodName := ⟨RX8, "refuseLong", "(I)J"⟩
abbrev cX8_outside : ByteArray := prog_1_method_38_code
def yX8_outside : MethodName := ⟨RX8, "outside", "(III)I"⟩
abbrev cX8_isEither : ByteArray := prog_1_method_39_code
def yX8_isEither : MethodName := ⟨RX8, "isEither", "(I)Z"⟩
abbrev cX8_isWeekday : ByteArray := prog_1_method_40_code
def yX8_isWeekday : MethodName := ⟨RX8, "isWeekday", "(I)Z"⟩
abbrev cX8_hasBit : ByteArray := prog_1_method_41_code
def yX8_hasBit : MethodName := ⟨RX8, "hasBit", "(II)Z"⟩
abbrev cX8_areTwo : ByteArray := prog_1_method_42_code
def yX8_areTwo : MethodName := ⟨RX8, "areTwo", "(II)Z"⟩
abbrev cX8_daysTillFall : ByteArray := prog_1_method_43_code
def yX8_daysTillFall : MethodName := ⟨RX8, "daysTillFall", "(II)I"⟩
abbrev cX8_nobodyFalls : ByteArray := prog_1_method_44_code
def yX8_nobodyFalls : MethodName := ⟨RX8, "nobodyFalls", "(II)Z"⟩
abbrev cX8_allTiredBehind : ByteArray := prog_1_method_45_code
def yX8_allTiredBehind : MethodName := ⟨RX8, "allTiredBehind", "(I)I"⟩
abbrev cX8_bothTiredBehind : ByteArray := prog_1_method_46_code
def yX8_bothTiredBehind : MethodName := ⟨RX8, "bothTiredBehind", "(III)I"⟩
abbrev cX8_wagesBehind : ByteArray := prog_1_method_47_code
def yX8_wagesBehind : MethodName := ⟨RX8, "wagesBehind", "(II)I"⟩
abbrev cX8_keepsTo : ByteArray := prog_1_method_48_code
def yX8_keepsTo : MethodName := ⟨RX8, "keepsTo", "(III)Z"⟩
abbrev cX8_feltTired : ByteArray := prog_1_method_49_code
def yX8_feltTired : MethodName := ⟨RX8, "feltTired", "(III)I"⟩
abbrev cX8_feverRefusal : ByteArray := prog_1_method_50_code
def yX8_feverRefusal : MethodName := ⟨RX8, "feverRefusal", "(IIIII)I"⟩
abbrev cX8_tiredByFevers : ByteArray := prog_1_method_51_code
def yX8_tiredByFevers : MethodName := ⟨RX8, "tiredByFevers", "(III)I"⟩
abbrev cX8_waysOfFevers : ByteArray := prog_1_method_52_code
def yX8_waysOfFevers : MethodName := ⟨RX8, "waysOfFevers", "(III)J"⟩
abbrev cX8_partOf : ByteArray := prog_1_method_53_code
def yX8_partOf : MethodName := ⟨RX8, "partOf", "(JJI)J"⟩
abbrev cX8_commonDivisor : ByteArray := prog_1_method_54_code
def yX8_commonDivisor : MethodName := ⟨RX8, "commonDivisor", "(JJ)J"⟩
abbrev cX8_tiresAsTold : ByteArray := prog_1_method_55_code
def yX8_tiresAsTold : MethodName := ⟨RX8, "tiresAsTold", "(I)Z"⟩
abbrev cX8_nextSeed : ByteArray := prog_1_method_56_code
def yX8_nextSeed : MethodName := ⟨RX8, "nextSeed", "(I)I"⟩
abbrev cX8_drawn : ByteArray := prog_1_method_57_code
def yX8_drawn : MethodName := ⟨RX8, "drawn", "(II)I"⟩
def RX9 : String := "PaidInDaysModel"
def TX9 : u_T := fun k => match k with
  | 0 => ("PaidInDaysModel", "s", "[I", true)
  | 1 => ("PaidInDaysModel", "m", "[I", true)
  | 2 => ("PaidInDaysModel", "image", "[I", true)
  | 3 => ("PaidInDaysModel", "was", "[I", true)
  | 4 => ("PaidInDaysModel", "hasImage", "Z", false)
  | 5 => ("PaidInDaysModel", "letters", "[I", true)
  | 6 => ("PaidInDaysModel", "row", "[I", true)
  | 7 => ("PaidInDaysModel", "refused", "[I", true)
  | 8 => ("PaidInDaysModel", "letterMany", "I", false)
  | 9 => ("PaidInDaysModel", "rowMany", "I", false)
  | 10 => ("PaidInDaysModel", "place", "I", false)
  | 11 => ("PaidInDaysModel", "numbers", "[I", true)
  | _ => ("PaidInDaysModel", "seed", "I", false)
def tyX9 : Nat → FieldType := fun k => match k with
  | 0 => .array .int
  | 1 => .array .int
  | 2 => .array .int
  | 3 => .array .int
  | 4 => .boolean
  | 5 => .array .int
  | 6 => .array .int
  | 7 => .array .int
  | 8 => .int
  | 9 => .int
  | 10 => .int
  | 11 => .array .int
  | _ => .int
abbrev wsX90 : List Cond := u_ws RX9 TX9 13
theorem nmX9 : ∀ a, a < 13 → ∀ b, b < 13 → a ≠ b → (TX9 a).2.1 ≠ (TX9 b).2.1 := by decide +kernel
theorem tyX9_ok : ∀ k, k < 13 → parseFieldDescriptor (TX9 k).2.2.1 = some (tyX9 k) := by decide +kernel
abbrev cX9_init : ByteArray := prog_11_method_1_code
def yX9_init : MethodName := ⟨RX9, "<init>", "()V"⟩
abbrev cX9_isIn : ByteArray := prog_11_method_2_code
def yX9_isIn : MethodName := ⟨RX9, "isIn", "(III)Z"⟩
abbrev cX9_least : ByteArray := prog_11_method_3_code
def yX9_least : MethodName := ⟨RX9, "least", "(II)I"⟩
abbrev cX9_copies : ByteArray := prog_11_method_4_code
def yX9_copies : MethodName := ⟨RX9, "copies", "([I[I)V"⟩
abbrev cX9_no : ByteArray := prog_11_method_5_code
def yX9_no : MethodName := ⟨RX9, "no", "(I)I"⟩
abbrev cX9_noWide : ByteArray := prog_11_method_6_code
def yX9_noWide : MethodName := ⟨RX9, "noWide", "(I)J"⟩
abbrev cX9_of : ByteArray := prog_11_method_7_code
def yX9_of : MethodName := ⟨RX9, "of", "(II)I"⟩
abbrev cX9_isWorker : ByteArray := prog_11_method_8_code
def yX9_isWorker : MethodName := ⟨RX9, "isWorker", "(I)Z"⟩
abbrev cX9_isWeekday : ByteArray := prog_11_method_9_code
def yX9_isWeekday : MethodName := ⟨RX9, "isWeekday", "(I)Z"⟩
abbrev cX9_has : ByteArray := prog_11_method_10_code
def yX9_has : MethodName := ⟨RX9, "has", "(II)Z"⟩
abbrev cX9_bits : ByteArray := prog_11_method_11_code
def yX9_bits : MethodName := ⟨RX9, "bits", "(I)I"⟩
abbrev cX9_paidBehind : ByteArray := prog_11_method_12_code
def yX9_paidBehind : MethodName := ⟨RX9, "paidBehind", "(II)I"⟩
abbrev cX9_wanted : ByteArray := prog_11_method_13_code
def yX9_wanted : MethodName := ⟨RX9, "wanted", "([III)I"⟩
abbrev cX9_roundFrom : ByteArray := prog_11_method_14_code
def yX9_roundFrom : MethodName := ⟨RX9, "roundFrom", "([III)I"⟩
abbrev cX9_richestFrom : ByteArray := prog_11_method_15_code
def yX9_richestFrom : MethodName := ⟨RX9, "richestFrom", "([II)I"⟩
abbrev cX9_leastFrom : ByteArray := prog_11_method_16_code
def yX9_leastFrom : MethodName := ⟨RX9, "leastFrom", "([II)I"⟩
abbrev cX9_fromWhom : ByteArray := prog_11_method_17_code
def yX9_fromWhom : MethodName := ⟨RX9, "fromWhom", "([II)I"⟩
abbrev cX9_whichOf : ByteArray := prog_11_method_18_code
def yX9_whichOf : MethodName := ⟨RX9, "whichOf", "([III)I"⟩
abbrev cX9_movesDay : ByteArray := prog_11_method_19_code
def yX9_movesDay : MethodName := ⟨RX9, "movesDay", "([IIII)V"⟩
abbrev cX9_isPaid : ByteArray := prog_11_method_20_code
def yX9_isPaid : MethodName := ⟨RX9, "isPaid", "([II)V"⟩
abbrev cX9_day : ByteArray := prog_11_method_21_code
def yX9_day : MethodName := ⟨RX9, "day", "([II)V"⟩
abbrev cX9_daysOn : ByteArray := prog_11_method_22_code
def yX9_daysOn : MethodName := ⟨RX9, "daysOn", "([II)V"⟩
abbrev cX9_inOn : ByteArray := prog_11_method_23_code
def yX9_inOn : MethodName := ⟨RX9, "inOn", "([II)I"⟩
abbrev cX9_allTired : ByteArray := prog_11_method_24_code
def yX9_allTired : MethodName := ⟨RX9, "allTired", "([I)I"⟩
abbrev cX9_letter : ByteArray := prog_11_method_25_code
def yX9_letter : MethodName := ⟨RX9, "letter", "(I)I"⟩
abbrev cX9_here : ByteArray := prog_11_method_26_code
def yX9_here : MethodName := ⟨RX9, "here", "()I"⟩
abbrev cX9_readsNumber : ByteArray := prog_11_method_27_code
def yX9_readsNumber : MethodName := ⟨RX9, "readsNumber", "(II)Z"⟩
abbrev cX9_kindBy : ByteArray := prog_11_method_28_code
def yX9_kindBy : MethodName := ⟨RX9, "kindBy", "(I)I"⟩
abbrev cX9_readsKind : ByteArray := prog_11_method_29_code
def yX9_readsKind : MethodName := ⟨RX9, "readsKind", "()Z"⟩
abbrev cX9_readsStatement : ByteArray := prog_11_method_30_code
def yX9_readsStatement : MethodName := ⟨RX9, "readsStatement", "()Z"⟩
abbrev cX9_canGive : ByteArray := prog_11_method_31_code
def yX9_canGive : MethodName := ⟨RX9, "canGive", "(III)Z"⟩
abbrev cX9_isDone : ByteArray := prog_11_method_32_code
def yX9_isDone : MethodName := ⟨RX9, "isDone", "(I)Z"⟩
abbrev cX9_works : ByteArray := prog_11_method_33_code
def yX9_works : MethodName := ⟨RX9, "works", "()I"⟩
abbrev cX9_worker : ByteArray := prog_11_method_34_code
def yX9_worker : MethodName := ⟨RX9, "worker", "(II)I"⟩
abbrev cX9_from : ByteArray := prog_11_method_35_code
def yX9_from : MethodName := ⟨RX9, "from", "(II)I"⟩
abbrev cX9_frees : ByteArray := prog_11_method_36_code
def yX9_frees : MethodName := ⟨RX9, "frees", "(II)I"⟩
abbrev cX9_gives : ByteArray := prog_11_method_37_code
def yX9_gives : MethodName := ⟨RX9, "gives", "(III)I"⟩
abbrev cX9_wrongBy : ByteArray := prog_11_method_38_code
def yX9_wrongBy : MethodName := ⟨RX9, "wrongBy", "(III)I"⟩
abbrev cX9_rests : ByteArray := prog_11_method_39_code
def yX9_rests : MethodName := ⟨RX9, "rests", "(II)I"⟩
abbrev cX9_turn : ByteArray := prog_11_method_40_code
def yX9_turn : MethodName := ⟨RX9, "turn", "(III)I"⟩
abbrev cX9_days : ByteArray := prog_11_method_41_code
def yX9_days : MethodName := ⟨RX9, "days", "(I)I"⟩
abbrev cX9_takes : ByteArray := prog_11_method_42_code
def yX9_takes : MethodName := ⟨RX9, "takes", "(I)V"⟩
abbrev cX9_workerThen : ByteArray := prog_11_method_43_code
def yX9_workerThen : MethodName := ⟨RX9, "workerThen", "(III)I"⟩
abbrev cX9_then : ByteArray := prog_11_method_44_code
def yX9_then : MethodName := ⟨RX9, "then", "(II)I"⟩
abbrev cX9_fallsOf : ByteArray := prog_11_method_45_code
def yX9_fallsOf : MethodName := ⟨RX9, "fallsOf", "(I)I"⟩
abbrev cX9_firstFalls : ByteArray := prog_11_method_46_code
def yX9_firstFalls : MethodName := ⟨RX9, "firstFalls", "()I"⟩
abbrev cX9_falls : ByteArray := prog_11_method_47_code
def yX9_falls : MethodName := ⟨RX9, "falls", "(I)I"⟩
abbrev cX9_isPaidDay : ByteArray := prog_11_method_48_code
def yX9_isPaidDay : MethodName := ⟨RX9, "isPaidDay", "()Z"⟩
abbrev cX9_sumOff : ByteArray := prog_11_method_49_code
def yX9_sumOff : MethodName := ⟨RX9, "sumOff", "([I)I"⟩
abbrev cX9_still : ByteArray := prog_11_method_50_code
def yX9_still : MethodName := ⟨RX9, "still", "()I"⟩
abbrev cX9_offOn : ByteArray := prog_11_method_51_code
def yX9_offOn : MethodName := ⟨RX9, "offOn", "(I)I"⟩
abbrev cX9_strike : ByteArray := prog_11_method_52_code
def yX9_strike : MethodName := ⟨RX9, "strike", "(I)I"⟩
abbrev cX9_bothIn : ByteArray := prog_11_method_53_code
def yX9_bothIn : MethodName := ⟨RX9, "bothIn", "(II)I"⟩
abbrev cX9_meet : ByteArray := prog_11_method_54_code
def yX9_meet : MethodName := ⟨RX9, "meet", "(II)I"⟩
abbrev cX9_never : ByteArray := prog_11_method_55_code
def yX9_never : MethodName := ⟨RX9, "never", "(I)I"⟩
abbrev cX9_rest : ByteArray := prog_11_method_56_code
def yX9_rest : MethodName := ⟨RX9, "rest", "(I)I"⟩
abbrev cX9_tiredNow : ByteArray := prog_11_method_57_code
def yX9_tiredNow : MethodName := ⟨RX9, "tiredNow", "(I)I"⟩
abbrev cX9_gift : ByteArray := prog_11_method_58_code
def yX9_gift : MethodName := ⟨RX9, "gift", "(III)I"⟩
abbrev cX9_trade : ByteArray := prog_11_method_59_code
def yX9_trade : MethodName := ⟨RX9, "trade", "(III)I"⟩
abbrev cX9_better : ByteArray := prog_11_method_60_code
def yX9_better : MethodName := ⟨RX9, "better", "(III)I"⟩
abbrev cX9_doesNobodyFall : ByteArray := prog_11_method_61_code
def yX9_doesNobodyFall : MethodName := ⟨RX9, "doesNobodyFall", "(I)Z"⟩
abbrev cX9_fewest : ByteArray := prog_11_method_62_code
def yX9_fewest : MethodName := ⟨RX9, "fewest", "(I)I"⟩
abbrev cX9_send : ByteArray := prog_11_method_63_code
def yX9_send : MethodName := ⟨RX9, "send", "(I)I"⟩
abbrev cX9_holiday : ByteArray := prog_11_method_64_code
def yX9_holiday : MethodName := ⟨RX9, "holiday", "(II)I"⟩
abbrev cX9_costBy : ByteArray := prog_11_method_65_code
def yX9_costBy : MethodName := ⟨RX9, "costBy", "(IIIIII)I"⟩
abbrev cX9_two : ByteArray := prog_11_method_66_code
def yX9_two : MethodName := ⟨RX9, "two", "(III)I"⟩
abbrev cX9_gcd : ByteArray := prog_11_method_67_code
def yX9_gcd : MethodName := ⟨RX9, "gcd", "(JJ)J"⟩
abbrev cX9_partOf : ByteArray := prog_11_method_68_code
def yX9_partOf : MethodName := ⟨RX9, "partOf", "(JJI)J"⟩
abbrev cX9_fever : ByteArray := prog_11_method_69_code
def yX9_fever : MethodName := ⟨RX9, "fever", "(IIIII)J"⟩
abbrev cX9_mean : ByteArray := prog_11_method_70_code
def yX9_mean : MethodName := ⟨RX9, "mean", "(I)J"⟩
abbrev cX9_whatIs : ByteArray := prog_11_method_71_code
def yX9_whatIs : MethodName := ⟨RX9, "whatIs", "(II)I"⟩
abbrev cX9_row : ByteArray := prog_11_method_72_code
def yX9_row : MethodName := ⟨RX9, "row", "(I)I"⟩
abbrev cX9_judge : ByteArray := prog_11_method_73_code
def yX9_judge : MethodName := ⟨RX9, "judge", "()I"⟩
abbrev cX9_clear : ByteArray := prog_11_method_74_code
def yX9_clear : MethodName := ⟨RX9, "clear", "()I"⟩
abbrev cX9_drawn : ByteArray := prog_11_method_75_code
def yX9_drawn : MethodName := ⟨RX9, "drawn", "(I)I"⟩
abbrev cX9_lots : ByteArray := prog_11_method_76_code
def yX9_lots : MethodName := ⟨RX9, "lots", "(III)I"⟩
abbrev cX9_image : ByteArray := prog_11_method_77_code
def yX9_image : MethodName := ⟨RX9, "image", "()I"⟩
abbrev cX9_on : ByteArray := prog_11_method_78_code
def yX9_on : MethodName := ⟨RX9, "on", "()I"⟩
abbrev cX9_count : ByteArray := prog_11_method_79_code
def yX9_count : MethodName := ⟨RX9, "count", "(I)I"⟩
def RJ11 : String := "java/lang/Character"
def TJ11 : u_T := fun k => match k with
  | _ => ("", "", "", false)
def tyJ11 : Nat → FieldType := fun k => match k with
  | _ => .int
abbrev wsJ110 : List Cond := u_ws RJ11 TJ11 0
theorem nmJ11 : ∀ a, a < 0 → ∀ b, b < 0 → a ≠ b → (TJ11 a).2.1 ≠ (TJ11 b).2.1 := by decide +kernel
theorem tyJ11_ok : ∀ k, k < 0 → parseFieldDescriptor (TJ11 k).2.2.1 = some (tyJ11 k) := by decide +kernel
abbrev cJ11_isValidCodePoint_9a6ad : ByteArray := prog_12_method_11_code
def yJ11_isValidCodePoint_9a6ad : MethodName := ⟨RJ11, "isValidCodePoint", "(I)Z"⟩
abbrev cJ11_highSurrogate_5068e : ByteArray := prog_12_method_28_code
def yJ11_highSurrogate_5068e : MethodName := ⟨RJ11, "highSurrogate", "(I)C"⟩
abbrev cJ11_lowSurrogate_5068e : ByteArray := prog_12_method_29_code
def yJ11_lowSurrogate_5068e : MethodName := ⟨RJ11, "lowSurrogate", "(I)C"⟩
def RJ6 : String := "java/lang/Integer"
def TJ6 : u_T := fun k => match k with
  | _ => ("", "", "", false)
def tyJ6 : Nat → FieldType := fun k => match k with
  | _ => .int
abbrev wsJ60 : List Cond := u_ws RJ6 TJ6 0
theorem nmJ6 : ∀ a, a < 0 → ∀ b, b < 0 → a ≠ b → (TJ6 a).2.1 ≠ (TJ6 b).2.1 := by decide +kernel
theorem tyJ6_ok : ∀ k, k < 0 → parseFieldDescriptor (TJ6 k).2.2.1 = some (tyJ6 k) := by decide +kernel
abbrev cJ6_numberOfLeadingZeros_0f7a4 : ByteArray := prog_13_method_47_code
def yJ6_numberOfLeadingZeros_0f7a4 : MethodName := ⟨RJ6, "numberOfLeadingZeros", "(I)I"⟩
abbrev cJ6_numberOfTrailingZeros_0f7a4 : ByteArray := prog_13_method_48_code
def yJ6_numberOfTrailingZeros_0f7a4 : MethodName := ⟨RJ6, "numberOfTrailingZeros", "(I)I"⟩
abbrev cJ6_bitCount_0f7a4 : ByteArray := prog_13_method_49_code
def yJ6_bitCount_0f7a4 : MethodName := ⟨RJ6, "bitCount", "(I)I"⟩
def RJ9 : String := "java/lang/Math"
def TJ9 : u_T := fun k => match k with
  | _ => ("", "", "", false)
def tyJ9 : Nat → FieldType := fun k => match k with
  | _ => .int
abbrev wsJ90 : List Cond := u_ws RJ9 TJ9 0
theorem nmJ9 : ∀ a, a < 0 → ∀ b, b < 0 → a ≠ b → (TJ9 a).2.1 ≠ (TJ9 b).2.1 := by decide +kernel
theorem tyJ9_ok : ∀ k, k < 0 → parseFieldDescriptor (TJ9 k).2.2.1 = some (tyJ9 k) := by decide +kernel
abbrev cJ9_max_7cf53 : ByteArray := prog_14_method_65_code
def yJ9_max_7cf53 : MethodName := ⟨RJ9, "max", "(II)I"⟩
abbrev cJ9_min_7cf53 : ByteArray := prog_14_method_69_code
def yJ9_min_7cf53 : MethodName := ⟨RJ9, "min", "(II)I"⟩
def RJ0 : String := "java/lang/String"
def TJ0 : u_T := fun k => match k with
  | _ => ("", "", "", false)
def tyJ0 : Nat → FieldType := fun k => match k with
  | _ => .int
abbrev wsJ00 : List Cond := u_ws RJ0 TJ0 0
theorem nmJ0 : ∀ a, a < 0 → ∀ b, b < 0 → a ≠ b → (TJ0 a).2.1 ≠ (TJ0 b).2.1 := by decide +kernel
theorem tyJ0_ok : ∀ k, k < 0 → parseFieldDescriptor (TJ0 k).2.2.1 = some (tyJ0 k) := by decide +kernel
abbrev cJ0_length_8abf5 : ByteArray := prog_15_method_54_code
def yJ0_length_8abf5 : MethodName := ⟨RJ0, "length", "()I"⟩
abbrev cJ0_isEmpty_aae02 : ByteArray := prog_15_method_55_code
def yJ0_isEmpty_aae02 : MethodName := ⟨RJ0, "isEmpty", "()Z"⟩
abbrev cJ0_charAt_5068e : ByteArray := prog_15_method_56_code
def yJ0_charAt_5068e : MethodName := ⟨RJ0, "charAt", "(I)C"⟩
abbrev cJ0_indexOf_0f7a4 : ByteArray := prog_15_method_79_code
def yJ0_indexOf_0f7a4 : MethodName := ⟨RJ0, "indexOf", "(I)I"⟩
abbrev cJ0_indexOf_7cf53 : ByteArray := prog_15_method_80_code
def yJ0_indexOf_7cf53 : MethodName := ⟨RJ0, "indexOf", "(II)I"⟩
abbrev cJ0_coder_7d493 : ByteArray := prog_15_method_152_code
def yJ0_coder_7d493 : MethodName := ⟨RJ0, "coder", "()B"⟩
abbrev cJ0_isLatin1_aae02 : ByteArray := prog_15_method_154_code
def yJ0_isLatin1_aae02 : MethodName := ⟨RJ0, "isLatin1", "()Z"⟩
abbrev cJ0_checkIndex_df160 : ByteArray := prog_15_method_155_code
def yJ0_checkIndex_df160 : MethodName := ⟨RJ0, "checkIndex", "(II)V"⟩
abbrev cJ0_checkBoundsBeginEnd_23922 : ByteArray := prog_15_method_158_code
def yJ0_checkBoundsBeginEnd_23922 : MethodName := ⟨RJ0, "checkBoundsBeginEnd", "(III)V"⟩
def RJ1 : String := "java/lang/StringLatin1"
def TJ1 : u_T := fun k => match k with
  | _ => ("", "", "", false)
def tyJ1 : Nat → FieldType := fun k => match k with
  | _ => .int
abbrev wsJ10 : List Cond := u_ws RJ1 TJ1 0
theorem nmJ1 : ∀ a, a < 0 → ∀ b, b < 0 → a ≠ b → (TJ1 a).2.1 ≠ (TJ1 b).2.1 := by decide +kernel
theorem tyJ1_ok : ∀ k, k < 0 → parseFieldDescriptor (TJ1 k).2.2.1 = some (tyJ1 k) := by decide +kernel
abbrev cJ1_charAt_3b067 : ByteArray := prog_16_method_2_code
def yJ1_charAt_3b067 : MethodName := ⟨RJ1, "charAt", "([BI)C"⟩
abbrev cJ1_canEncode_9a6ad : ByteArray := prog_16_method_4_code
def yJ1_canEncode_9a6ad : MethodName := ⟨RJ1, "canEncode", "(I)Z"⟩
abbrev cJ1_indexOf_4cfef : ByteArray := prog_16_method_22_code
def yJ1_indexOf_4cfef : MethodName := ⟨RJ1, "indexOf", "([BIII)I"⟩
abbrev cJ1_indexOfChar_4cfef : ByteArray := prog_16_method_23_code
def yJ1_indexOfChar_4cfef : MethodName := ⟨RJ1, "indexOfChar", "([BIII)I"⟩
def RJ2 : String := "java/lang/StringUTF16"
def TJ2 : u_T := fun k => match k with
  | _ => ("", "", "", false)
def tyJ2 : Nat → FieldType := fun k => match k with
  | _ => .int
abbrev wsJ20 : List Cond := u_ws RJ2 TJ2 0
theorem nmJ2 : ∀ a, a < 0 → ∀ b, b < 0 → a ≠ b → (TJ2 a).2.1 ≠ (TJ2 b).2.1 := by decide +kernel
theorem tyJ2_ok : ∀ k, k < 0 → parseFieldDescriptor (TJ2 k).2.2.1 = some (tyJ2 k) := by decide +kernel
abbrev cJ2_getChar_3b067 : ByteArray := prog_17_method_5_code
def yJ2_getChar_3b067 : MethodName := ⟨RJ2, "getChar", "([BI)C"⟩
abbrev cJ2_length_9d52b : ByteArray := prog_17_method_6_code
def yJ2_length_9d52b : MethodName := ⟨RJ2, "length", "([B)I"⟩
abbrev cJ2_indexOf_4cfef : ByteArray := prog_17_method_40_code
def yJ2_indexOf_4cfef : MethodName := ⟨RJ2, "indexOf", "([BIII)I"⟩
abbrev cJ2_indexOfChar_4cfef : ByteArray := prog_17_method_47_code
def yJ2_indexOfChar_4cfef : MethodName := ⟨RJ2, "indexOfChar", "([BIII)I"⟩
abbrev cJ2_indexOfCharUnsafe_4cfef : ByteArray := prog_17_method_48_code
def yJ2_indexOfCharUnsafe_4cfef : MethodName := ⟨RJ2, "indexOfCharUnsafe", "([BIII)I"⟩
abbrev cJ2_indexOfSupplementary_4cfef : ByteArray := prog_17_method_49_code
def yJ2_indexOfSupplementary_4cfef : MethodName := ⟨RJ2, "indexOfSupplementary", "([BIII)I"⟩
abbrev cJ2_charAt_3b067 : ByteArray := prog_17_method_83_code
def yJ2_charAt_3b067 : MethodName := ⟨RJ2, "charAt", "([BI)C"⟩
abbrev cJ2_checkIndex_2214a : ByteArray := prog_17_method_91_code
def yJ2_checkIndex_2214a : MethodName := ⟨RJ2, "checkIndex", "(I[B)V"⟩
abbrev cJ2_checkBoundsBeginEnd_d044e : ByteArray := prog_17_method_93_code
def yJ2_checkBoundsBeginEnd_d044e : MethodName := ⟨RJ2, "checkBoundsBeginEnd", "(II[B)V"⟩
def RJ10 : String := "java/lang/System"
def TJ10 : u_T := fun k => match k with
  | _ => ("", "", "", false)
def tyJ10 : Nat → FieldType := fun k => match k with
  | _ => .int
abbrev wsJ100 : List Cond := u_ws RJ10 TJ10 0
theorem nmJ10 : ∀ a, a < 0 → ∀ b, b < 0 → a ≠ b → (TJ10 a).2.1 ≠ (TJ10 b).2.1 := by decide +kernel
theorem tyJ10_ok : ∀ k, k < 0 → parseFieldDescriptor (TJ10 k).2.2.1 = some (tyJ10 k) := by decide +kernel
def RJ3 : String := "jdk/internal/util/Preconditions"
def TJ3 : u_T := fun k => match k with
  | _ => ("", "", "", false)
def tyJ3 : Nat → FieldType := fun k => match k with
  | _ => .int
abbrev wsJ30 : List Cond := u_ws RJ3 TJ3 0
theorem nmJ3 : ∀ a, a < 0 → ∀ b, b < 0 → a ≠ b → (TJ3 a).2.1 ≠ (TJ3 b).2.1 := by decide +kernel
theorem tyJ3_ok : ∀ k, k < 0 → parseFieldDescriptor (TJ3 k).2.2.1 = some (tyJ3 k) := by decide +kernel
abbrev cJ3_checkIndex_8e157 : ByteArray := prog_19_method_11_code
def yJ3_checkIndex_8e157 : MethodName := ⟨RJ3, "checkIndex", "(IILjava/util/function/BiFunction;)I"⟩
abbrev cJ3_checkFromToIndex_8c36e : ByteArray := prog_19_method_12_code
def yJ3_checkFromToIndex_8c36e : MethodName := ⟨RJ3, "checkFromToIndex", "(IIILjava/util/function/BiFunction;)I"⟩
def RL : String := "PaidInDaysLaw"
abbrev cL_law : ByteArray := code
def yL_law : MethodName := ⟨RL, "law", "([I)Z"⟩
abbrev vwCl : List vw_C := [(RX0, TX0, 0), (RX1, TX1, 9), (RX2, TX2, 0), (RX3, TX3, 0), (RX4, TX4, 0), (RX5, TX5, 2), (RX6, TX6, 0), (RX7, TX7, 0), (RX8, TX8, 8), (RX9, TX9, 13)]
