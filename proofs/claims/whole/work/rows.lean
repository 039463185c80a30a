section
-- ===== PART A: goes FIRST, ahead of the names: the tables' words, and 'selects' of the private methods out of them =====
/-- a private method of a class that the tables say can be made, by its rows of tables_1 -/
def lw_okq (q : MethodName × Nat) : Prop := (q.1.cls ≠ "java/lang/invoke/MethodHandle" ∧ q.1.cls ≠ "java/lang/invoke/VarHandle") ∧ Cond.instantiable q.1.cls q.2 ∈ tables_1 ∧ Cond.privateMethod q.1 ∈ tables_1 ∧ Cond.instanceMethod q.1 ∈ tables_1
theorem lw_p0 : lw_okq (⟨"PlanBounds", "isKept", "(I)Z"⟩, 12) := ⟨⟨by decide +kernel, by decide +kernel⟩, List.mem_of_getElem? (i := 13) (by decide +kernel), List.mem_of_getElem? (i := 105) (by decide +kernel), List.mem_of_getElem? (i := 106) (by decide +kernel)⟩
theorem lw_p1 : lw_okq (⟨"PlanBounds$Table", "sumOfStarts", "([II)J"⟩, 8) := ⟨⟨by decide +kernel, by decide +kernel⟩, List.mem_of_getElem? (i := 21) (by decide +kernel), List.mem_of_getElem? (i := 112) (by decide +kernel), List.mem_of_getElem? (i := 113) (by decide +kernel)⟩
theorem lw_p2 : lw_okq (⟨"PlanBounds$Table", "startOf", "(I)J"⟩, 8) := ⟨⟨by decide +kernel, by decide +kernel⟩, List.mem_of_getElem? (i := 21) (by decide +kernel), List.mem_of_getElem? (i := 116) (by decide +kernel), List.mem_of_getElem? (i := 117) (by decide +kernel)⟩
theorem lw_p3 : lw_okq (⟨"PlanBounds$Table", "placeInside", "(I)I"⟩, 8) := ⟨⟨by decide +kernel, by decide +kernel⟩, List.mem_of_getElem? (i := 21) (by decide +kernel), List.mem_of_getElem? (i := 120) (by decide +kernel), List.mem_of_getElem? (i := 121) (by decide +kernel)⟩
theorem lw_p4 : lw_okq (⟨"PlanBounds$Table", "cell", "(II)J"⟩, 8) := ⟨⟨by decide +kernel, by decide +kernel⟩, List.mem_of_getElem? (i := 21) (by decide +kernel), List.mem_of_getElem? (i := 124) (by decide +kernel), List.mem_of_getElem? (i := 125) (by decide +kernel)⟩
theorem lw_p5 : lw_okq (⟨"PlanBounds", "rowsOfWeek", "(I)I"⟩, 12) := ⟨⟨by decide +kernel, by decide +kernel⟩, List.mem_of_getElem? (i := 13) (by decide +kernel), List.mem_of_getElem? (i := 136) (by decide +kernel), List.mem_of_getElem? (i := 137) (by decide +kernel)⟩
theorem lw_p6 : lw_okq (⟨"java/lang/Throwable", "fillInStackTrace", "(I)Ljava/lang/Throwable;"⟩, 6) := ⟨⟨by decide +kernel, by decide +kernel⟩, List.mem_of_getElem? (i := 190) (by decide +kernel), List.mem_of_getElem? (i := 188) (by decide +kernel), List.mem_of_getElem? (i := 189) (by decide +kernel)⟩
theorem lw_p7 : lw_okq (⟨"PlanBounds$Table", "addColumn", "(J)I"⟩, 8) := ⟨⟨by decide +kernel, by decide +kernel⟩, List.mem_of_getElem? (i := 21) (by decide +kernel), List.mem_of_getElem? (i := 237) (by decide +kernel), List.mem_of_getElem? (i := 238) (by decide +kernel)⟩
theorem lw_p8 : lw_okq (⟨"PlanBounds$Table", "setCell", "(IIJ)V"⟩, 8) := ⟨⟨by decide +kernel, by decide +kernel⟩, List.mem_of_getElem? (i := 21) (by decide +kernel), List.mem_of_getElem? (i := 241) (by decide +kernel), List.mem_of_getElem? (i := 242) (by decide +kernel)⟩
theorem lw_p9 : lw_okq (⟨"PlanBounds", "needRoomForRow", "()V"⟩, 12) := ⟨⟨by decide +kernel, by decide +kernel⟩, List.mem_of_getElem? (i := 13) (by decide +kernel), List.mem_of_getElem? (i := 252) (by decide +kernel), List.mem_of_getElem? (i := 253) (by decide +kernel)⟩
theorem lw_p10 : lw_okq (⟨"PlanBounds", "addRow", "(IIJ)I"⟩, 12) := ⟨⟨by decide +kernel, by decide +kernel⟩, List.mem_of_getElem? (i := 13) (by decide +kernel), List.mem_of_getElem? (i := 265) (by decide +kernel), List.mem_of_getElem? (i := 266) (by decide +kernel)⟩
theorem lw_p11 : lw_okq (⟨"PlanBounds", "needRow", "(I)V"⟩, 12) := ⟨⟨by decide +kernel, by decide +kernel⟩, List.mem_of_getElem? (i := 13) (by decide +kernel), List.mem_of_getElem? (i := 277) (by decide +kernel), List.mem_of_getElem? (i := 278) (by decide +kernel)⟩
theorem lw_p12 : lw_okq (⟨"PlanBounds", "needColumn", "(I)V"⟩, 12) := ⟨⟨by decide +kernel, by decide +kernel⟩, List.mem_of_getElem? (i := 13) (by decide +kernel), List.mem_of_getElem? (i := 297) (by decide +kernel), List.mem_of_getElem? (i := 298) (by decide +kernel)⟩
theorem lw_p13 : lw_okq (⟨"PlanBounds", "moveStarts", "(IJ)Z"⟩, 12) := ⟨⟨by decide +kernel, by decide +kernel⟩, List.mem_of_getElem? (i := 13) (by decide +kernel), List.mem_of_getElem? (i := 319) (by decide +kernel), List.mem_of_getElem? (i := 320) (by decide +kernel)⟩
theorem lw_p14 : lw_okq (⟨"PlanBounds$Table", "copyStarts", "()V"⟩, 8) := ⟨⟨by decide +kernel, by decide +kernel⟩, List.mem_of_getElem? (i := 21) (by decide +kernel), List.mem_of_getElem? (i := 323) (by decide +kernel), List.mem_of_getElem? (i := 324) (by decide +kernel)⟩
theorem lw_p15 : lw_okq (⟨"PlanBounds", "linesOf", "(I)I"⟩, 12) := ⟨⟨by decide +kernel, by decide +kernel⟩, List.mem_of_getElem? (i := 13) (by decide +kernel), List.mem_of_getElem? (i := 327) (by decide +kernel), List.mem_of_getElem? (i := 328) (by decide +kernel)⟩
def lw_privs_1 : List (MethodName × Nat) := [(⟨"PlanBounds", "isKept", "(I)Z"⟩, 12), (⟨"PlanBounds$Table", "sumOfStarts", "([II)J"⟩, 8), (⟨"PlanBounds$Table", "startOf", "(I)J"⟩, 8), (⟨"PlanBounds$Table", "placeInside", "(I)I"⟩, 8), (⟨"PlanBounds$Table", "cell", "(II)J"⟩, 8), (⟨"PlanBounds", "rowsOfWeek", "(I)I"⟩, 12), (⟨"java/lang/Throwable", "fillInStackTrace", "(I)Ljava/lang/Throwable;"⟩, 6), (⟨"PlanBounds$Table", "addColumn", "(J)I"⟩, 8), (⟨"PlanBounds$Table", "setCell", "(IIJ)V"⟩, 8), (⟨"PlanBounds", "needRoomForRow", "()V"⟩, 12), (⟨"PlanBounds", "addRow", "(IIJ)I"⟩, 12), (⟨"PlanBounds", "needRow", "(I)V"⟩, 12), (⟨"PlanBounds", "needColumn", "(I)V"⟩, 12), (⟨"PlanBounds", "moveStarts", "(IJ)Z"⟩, 12), (⟨"PlanBounds$Table", "copyStarts", "()V"⟩, 8), (⟨"PlanBounds", "linesOf", "(I)I"⟩, 12)]
theorem lw_r1 : ∀ q ∈ lw_privs_1, lw_okq q := List.forall_mem_cons.mpr ⟨lw_p0, List.forall_mem_cons.mpr ⟨lw_p1, List.forall_mem_cons.mpr ⟨lw_p2, List.forall_mem_cons.mpr ⟨lw_p3, List.forall_mem_cons.mpr ⟨lw_p4, List.forall_mem_cons.mpr ⟨lw_p5, List.forall_mem_cons.mpr ⟨lw_p6, List.forall_mem_cons.mpr ⟨lw_p7, List.forall_mem_cons.mpr ⟨lw_p8, List.forall_mem_cons.mpr ⟨lw_p9, List.forall_mem_cons.mpr ⟨lw_p10, List.forall_mem_cons.mpr ⟨lw_p11, List.forall_mem_cons.mpr ⟨lw_p12, List.forall_mem_cons.mpr ⟨lw_p13, List.forall_mem_cons.mpr ⟨lw_p14, List.forall_mem_cons.mpr ⟨lw_p15, fun _ h => absurd h List.not_mem_nil⟩⟩⟩⟩⟩⟩⟩⟩⟩⟩⟩⟩⟩⟩⟩⟩
theorem lw_p16 : lw_okq (⟨"PlanBounds", "variableOf", "(II)I"⟩, 12) := ⟨⟨by decide +kernel, by decide +kernel⟩, List.mem_of_getElem? (i := 13) (by decide +kernel), List.mem_of_getElem? (i := 331) (by decide +kernel), List.mem_of_getElem? (i := 332) (by decide +kernel)⟩
theorem lw_p17 : lw_okq (⟨"PlanBounds", "signOf", "(II)I"⟩, 12) := ⟨⟨by decide +kernel, by decide +kernel⟩, List.mem_of_getElem? (i := 13) (by decide +kernel), List.mem_of_getElem? (i := 335) (by decide +kernel), List.mem_of_getElem? (i := 336) (by decide +kernel)⟩
theorem lw_p18 : lw_okq (⟨"PlanBounds$Table", "moveCopied", "(IJ)V"⟩, 8) := ⟨⟨by decide +kernel, by decide +kernel⟩, List.mem_of_getElem? (i := 21) (by decide +kernel), List.mem_of_getElem? (i := 339) (by decide +kernel), List.mem_of_getElem? (i := 340) (by decide +kernel)⟩
theorem lw_p19 : lw_okq (⟨"PlanBounds$Table", "placeOutside", "(I)I"⟩, 8) := ⟨⟨by decide +kernel, by decide +kernel⟩, List.mem_of_getElem? (i := 21) (by decide +kernel), List.mem_of_getElem? (i := 343) (by decide +kernel), List.mem_of_getElem? (i := 344) (by decide +kernel)⟩
theorem lw_p20 : lw_okq (⟨"PlanBounds$Table", "takeCopiedStarts", "()Z"⟩, 8) := ⟨⟨by decide +kernel, by decide +kernel⟩, List.mem_of_getElem? (i := 21) (by decide +kernel), List.mem_of_getElem? (i := 347) (by decide +kernel), List.mem_of_getElem? (i := 348) (by decide +kernel)⟩
theorem lw_p21 : lw_okq (⟨"PlanBounds", "bringRows", "()Z"⟩, 12) := ⟨⟨by decide +kernel, by decide +kernel⟩, List.mem_of_getElem? (i := 13) (by decide +kernel), List.mem_of_getElem? (i := 364) (by decide +kernel), List.mem_of_getElem? (i := 365) (by decide +kernel)⟩
theorem lw_p22 : lw_okq (⟨"PlanBounds", "bringRow", "(I)Z"⟩, 12) := ⟨⟨by decide +kernel, by decide +kernel⟩, List.mem_of_getElem? (i := 13) (by decide +kernel), List.mem_of_getElem? (i := 368) (by decide +kernel), List.mem_of_getElem? (i := 369) (by decide +kernel)⟩
theorem lw_p23 : lw_okq (⟨"PlanBounds$Table", "tell", "([IIJ)V"⟩, 8) := ⟨⟨by decide +kernel, by decide +kernel⟩, List.mem_of_getElem? (i := 21) (by decide +kernel), List.mem_of_getElem? (i := 372) (by decide +kernel), List.mem_of_getElem? (i := 373) (by decide +kernel)⟩
theorem lw_p24 : lw_okq (⟨"PlanBounds$Table", "tellColumn", "(IJ)V"⟩, 8) := ⟨⟨by decide +kernel, by decide +kernel⟩, List.mem_of_getElem? (i := 21) (by decide +kernel), List.mem_of_getElem? (i := 379) (by decide +kernel), List.mem_of_getElem? (i := 380) (by decide +kernel)⟩
theorem lw_p25 : lw_okq (⟨"PlanBounds$Table", "toldFits", "()Z"⟩, 8) := ⟨⟨by decide +kernel, by decide +kernel⟩, List.mem_of_getElem? (i := 21) (by decide +kernel), List.mem_of_getElem? (i := 383) (by decide +kernel), List.mem_of_getElem? (i := 384) (by decide +kernel)⟩
theorem lw_p26 : lw_okq (⟨"PlanBounds$Table", "bringTold", "(I)V"⟩, 8) := ⟨⟨by decide +kernel, by decide +kernel⟩, List.mem_of_getElem? (i := 21) (by decide +kernel), List.mem_of_getElem? (i := 387) (by decide +kernel), List.mem_of_getElem? (i := 388) (by decide +kernel)⟩
theorem lw_p27 : lw_okq (⟨"PlanBounds", "doSteps", "(I)I"⟩, 12) := ⟨⟨by decide +kernel, by decide +kernel⟩, List.mem_of_getElem? (i := 13) (by decide +kernel), List.mem_of_getElem? (i := 391) (by decide +kernel), List.mem_of_getElem? (i := 392) (by decide +kernel)⟩
theorem lw_p28 : lw_okq (⟨"PlanBounds$Table", "leavingPlace", "()I"⟩, 8) := ⟨⟨by decide +kernel, by decide +kernel⟩, List.mem_of_getElem? (i := 21) (by decide +kernel), List.mem_of_getElem? (i := 395) (by decide +kernel), List.mem_of_getElem? (i := 396) (by decide +kernel)⟩
theorem lw_p29 : lw_okq (⟨"PlanBounds$Table", "enteringPlace", "(I)I"⟩, 8) := ⟨⟨by decide +kernel, by decide +kernel⟩, List.mem_of_getElem? (i := 21) (by decide +kernel), List.mem_of_getElem? (i := 399) (by decide +kernel), List.mem_of_getElem? (i := 400) (by decide +kernel)⟩
theorem lw_p30 : lw_okq (⟨"PlanBounds$Table", "entersBefore", "(III)Z"⟩, 8) := ⟨⟨by decide +kernel, by decide +kernel⟩, List.mem_of_getElem? (i := 21) (by decide +kernel), List.mem_of_getElem? (i := 403) (by decide +kernel), List.mem_of_getElem? (i := 404) (by decide +kernel)⟩
theorem lw_p31 : lw_okq (⟨"PlanBounds$Table", "stepFits", "(II)Z"⟩, 8) := ⟨⟨by decide +kernel, by decide +kernel⟩, List.mem_of_getElem? (i := 21) (by decide +kernel), List.mem_of_getElem? (i := 407) (by decide +kernel), List.mem_of_getElem? (i := 408) (by decide +kernel)⟩
def lw_privs_2 : List (MethodName × Nat) := [(⟨"PlanBounds", "variableOf", "(II)I"⟩, 12), (⟨"PlanBounds", "signOf", "(II)I"⟩, 12), (⟨"PlanBounds$Table", "moveCopied", "(IJ)V"⟩, 8), (⟨"PlanBounds$Table", "placeOutside", "(I)I"⟩, 8), (⟨"PlanBounds$Table", "takeCopiedStarts", "()Z"⟩, 8), (⟨"PlanBounds", "bringRows", "()Z"⟩, 12), (⟨"PlanBounds", "bringRow", "(I)Z"⟩, 12), (⟨"PlanBounds$Table", "tell", "([IIJ)V"⟩, 8), (⟨"PlanBounds$Table", "tellColumn", "(IJ)V"⟩, 8), (⟨"PlanBounds$Table", "toldFits", "()Z"⟩, 8), (⟨"PlanBounds$Table", "bringTold", "(I)V"⟩, 8), (⟨"PlanBounds", "doSteps", "(I)I"⟩, 12), (⟨"PlanBounds$Table", "leavingPlace", "()I"⟩, 8), (⟨"PlanBounds$Table", "enteringPlace", "(I)I"⟩, 8), (⟨"PlanBounds$Table", "entersBefore", "(III)Z"⟩, 8), (⟨"PlanBounds$Table", "stepFits", "(II)Z"⟩, 8)]
theorem lw_r2 : ∀ q ∈ lw_privs_2, lw_okq q := List.forall_mem_cons.mpr ⟨lw_p16, List.forall_mem_cons.mpr ⟨lw_p17, List.forall_mem_cons.mpr ⟨lw_p18, List.forall_mem_cons.mpr ⟨lw_p19, List.forall_mem_cons.mpr ⟨lw_p20, List.forall_mem_cons.mpr ⟨lw_p21, List.forall_mem_cons.mpr ⟨lw_p22, List.forall_mem_cons.mpr ⟨lw_p23, List.forall_mem_cons.mpr ⟨lw_p24, List.forall_mem_cons.mpr ⟨lw_p25, List.forall_mem_cons.mpr ⟨lw_p26, List.forall_mem_cons.mpr ⟨lw_p27, List.forall_mem_cons.mpr ⟨lw_p28, List.forall_mem_cons.mpr ⟨lw_p29, List.forall_mem_cons.mpr ⟨lw_p30, List.forall_mem_cons.mpr ⟨lw_p31, fun _ h => absurd h List.not_mem_nil⟩⟩⟩⟩⟩⟩⟩⟩⟩⟩⟩⟩⟩⟩⟩⟩
theorem lw_p32 : lw_okq (⟨"PlanBounds$Table", "otherFits", "(III)Z"⟩, 8) := ⟨⟨by decide +kernel, by decide +kernel⟩, List.mem_of_getElem? (i := 21) (by decide +kernel), List.mem_of_getElem? (i := 411) (by decide +kernel), List.mem_of_getElem? (i := 412) (by decide +kernel)⟩
theorem lw_p33 : lw_okq (⟨"PlanBounds$Table", "afterStep", "(JJJJ)J"⟩, 8) := ⟨⟨by decide +kernel, by decide +kernel⟩, List.mem_of_getElem? (i := 21) (by decide +kernel), List.mem_of_getElem? (i := 415) (by decide +kernel), List.mem_of_getElem? (i := 416) (by decide +kernel)⟩
theorem lw_p34 : lw_okq (⟨"PlanBounds$Table", "change", "(II)V"⟩, 8) := ⟨⟨by decide +kernel, by decide +kernel⟩, List.mem_of_getElem? (i := 21) (by decide +kernel), List.mem_of_getElem? (i := 419) (by decide +kernel), List.mem_of_getElem? (i := 420) (by decide +kernel)⟩
theorem lw_p35 : lw_okq (⟨"PlanBounds$Table", "changeOther", "(III)V"⟩, 8) := ⟨⟨by decide +kernel, by decide +kernel⟩, List.mem_of_getElem? (i := 21) (by decide +kernel), List.mem_of_getElem? (i := 423) (by decide +kernel), List.mem_of_getElem? (i := 424) (by decide +kernel)⟩
theorem lw_p36 : lw_okq (⟨"PlanBounds$Table", "changeEntered", "(II)V"⟩, 8) := ⟨⟨by decide +kernel, by decide +kernel⟩, List.mem_of_getElem? (i := 21) (by decide +kernel), List.mem_of_getElem? (i := 427) (by decide +kernel), List.mem_of_getElem? (i := 428) (by decide +kernel)⟩
theorem lw_p37 : lw_okq (⟨"PlanBounds", "linesInTable", "(I)I"⟩, 12) := ⟨⟨by decide +kernel, by decide +kernel⟩, List.mem_of_getElem? (i := 13) (by decide +kernel), List.mem_of_getElem? (i := 467) (by decide +kernel), List.mem_of_getElem? (i := 468) (by decide +kernel)⟩
theorem lw_p38 : lw_okq (⟨"PlanBounds$Table", "numberBy", "(II)J"⟩, 8) := ⟨⟨by decide +kernel, by decide +kernel⟩, List.mem_of_getElem? (i := 21) (by decide +kernel), List.mem_of_getElem? (i := 471) (by decide +kernel), List.mem_of_getElem? (i := 472) (by decide +kernel)⟩
theorem lw_p39 : lw_okq (⟨"PlanBounds", "timesTaken", "(II)J"⟩, 12) := ⟨⟨by decide +kernel, by decide +kernel⟩, List.mem_of_getElem? (i := 13) (by decide +kernel), List.mem_of_getElem? (i := 483) (by decide +kernel), List.mem_of_getElem? (i := 484) (by decide +kernel)⟩
theorem lw_p40 : lw_okq (⟨"PlanBoundsModel", "add", "(IIJ)I"⟩, 19) := ⟨⟨by decide +kernel, by decide +kernel⟩, List.mem_of_getElem? (i := 487) (by decide +kernel), List.mem_of_getElem? (i := 570) (by decide +kernel), List.mem_of_getElem? (i := 571) (by decide +kernel)⟩
theorem lw_p41 : lw_okq (⟨"PlanBoundsModel", "isInside", "(I)Z"⟩, 19) := ⟨⟨by decide +kernel, by decide +kernel⟩, List.mem_of_getElem? (i := 487) (by decide +kernel), List.mem_of_getElem? (i := 587) (by decide +kernel), List.mem_of_getElem? (i := 588) (by decide +kernel)⟩
theorem lw_p42 : lw_okq (⟨"PlanBoundsModel", "moved", "(IIJ)J"⟩, 19) := ⟨⟨by decide +kernel, by decide +kernel⟩, List.mem_of_getElem? (i := 487) (by decide +kernel), List.mem_of_getElem? (i := 591) (by decide +kernel), List.mem_of_getElem? (i := 592) (by decide +kernel)⟩
theorem lw_p43 : lw_okq (⟨"PlanBoundsModel", "comes", "(I)Z"⟩, 19) := ⟨⟨by decide +kernel, by decide +kernel⟩, List.mem_of_getElem? (i := 487) (by decide +kernel), List.mem_of_getElem? (i := 604) (by decide +kernel), List.mem_of_getElem? (i := 605) (by decide +kernel)⟩
theorem lw_p44 : lw_okq (⟨"PlanBoundsModel", "sum", "(II)J"⟩, 19) := ⟨⟨by decide +kernel, by decide +kernel⟩, List.mem_of_getElem? (i := 487) (by decide +kernel), List.mem_of_getElem? (i := 608) (by decide +kernel), List.mem_of_getElem? (i := 609) (by decide +kernel)⟩
theorem lw_p45 : lw_okq (⟨"PlanBoundsModel", "leaving", "()I"⟩, 19) := ⟨⟨by decide +kernel, by decide +kernel⟩, List.mem_of_getElem? (i := 487) (by decide +kernel), List.mem_of_getElem? (i := 612) (by decide +kernel), List.mem_of_getElem? (i := 613) (by decide +kernel)⟩
theorem lw_p46 : lw_okq (⟨"PlanBoundsModel", "entering", "(I)I"⟩, 19) := ⟨⟨by decide +kernel, by decide +kernel⟩, List.mem_of_getElem? (i := 487) (by decide +kernel), List.mem_of_getElem? (i := 616) (by decide +kernel), List.mem_of_getElem? (i := 617) (by decide +kernel)⟩
theorem lw_p47 : lw_okq (⟨"PlanBoundsModel", "step", "(II)Z"⟩, 19) := ⟨⟨by decide +kernel, by decide +kernel⟩, List.mem_of_getElem? (i := 487) (by decide +kernel), List.mem_of_getElem? (i := 621) (by decide +kernel), List.mem_of_getElem? (i := 622) (by decide +kernel)⟩
def lw_privs_3 : List (MethodName × Nat) := [(⟨"PlanBounds$Table", "otherFits", "(III)Z"⟩, 8), (⟨"PlanBounds$Table", "afterStep", "(JJJJ)J"⟩, 8), (⟨"PlanBounds$Table", "change", "(II)V"⟩, 8), (⟨"PlanBounds$Table", "changeOther", "(III)V"⟩, 8), (⟨"PlanBounds$Table", "changeEntered", "(II)V"⟩, 8), (⟨"PlanBounds", "linesInTable", "(I)I"⟩, 12), (⟨"PlanBounds$Table", "numberBy", "(II)J"⟩, 8), (⟨"PlanBounds", "timesTaken", "(II)J"⟩, 12), (⟨"PlanBoundsModel", "add", "(IIJ)I"⟩, 19), (⟨"PlanBoundsModel", "isInside", "(I)Z"⟩, 19), (⟨"PlanBoundsModel", "moved", "(IIJ)J"⟩, 19), (⟨"PlanBoundsModel", "comes", "(I)Z"⟩, 19), (⟨"PlanBoundsModel", "sum", "(II)J"⟩, 19), (⟨"PlanBoundsModel", "leaving", "()I"⟩, 19), (⟨"PlanBoundsModel", "entering", "(I)I"⟩, 19), (⟨"PlanBoundsModel", "step", "(II)Z"⟩, 19)]
theorem lw_r3 : ∀ q ∈ lw_privs_3, lw_okq q := List.forall_mem_cons.mpr ⟨lw_p32, List.forall_mem_cons.mpr ⟨lw_p33, List.forall_mem_cons.mpr ⟨lw_p34, List.forall_mem_cons.mpr ⟨lw_p35, List.forall_mem_cons.mpr ⟨lw_p36, List.forall_mem_cons.mpr ⟨lw_p37, List.forall_mem_cons.mpr ⟨lw_p38, List.forall_mem_cons.mpr ⟨lw_p39, List.forall_mem_cons.mpr ⟨lw_p40, List.forall_mem_cons.mpr ⟨lw_p41, List.forall_mem_cons.mpr ⟨lw_p42, List.forall_mem_cons.mpr ⟨lw_p43, List.forall_mem_cons.mpr ⟨lw_p44, List.forall_mem_cons.mpr ⟨lw_p45, List.forall_mem_cons.mpr ⟨lw_p46, List.forall_mem_cons.mpr ⟨lw_p47, fun _ h => absurd h List.not_mem_nil⟩⟩⟩⟩⟩⟩⟩⟩⟩⟩⟩⟩⟩⟩⟩⟩
theorem lw_p48 : lw_okq (⟨"PlanBoundsModel", "isPart", "(I)Z"⟩, 19) := ⟨⟨by decide +kernel, by decide +kernel⟩, List.mem_of_getElem? (i := 487) (by decide +kernel), List.mem_of_getElem? (i := 629) (by decide +kernel), List.mem_of_getElem? (i := 630) (by decide +kernel)⟩
theorem lw_p49 : lw_okq (⟨"PlanBoundsModel", "fraction", "(JI)J"⟩, 19) := ⟨⟨by decide +kernel, by decide +kernel⟩, List.mem_of_getElem? (i := 487) (by decide +kernel), List.mem_of_getElem? (i := 633) (by decide +kernel), List.mem_of_getElem? (i := 634) (by decide +kernel)⟩
theorem lw_p50 : lw_okq (⟨"PlanBoundsModel", "amount", "(I)J"⟩, 19) := ⟨⟨by decide +kernel, by decide +kernel⟩, List.mem_of_getElem? (i := 487) (by decide +kernel), List.mem_of_getElem? (i := 644) (by decide +kernel), List.mem_of_getElem? (i := 645) (by decide +kernel)⟩
theorem lw_p51 : lw_okq (⟨"PlanBoundsModel", "price", "(I)J"⟩, 19) := ⟨⟨by decide +kernel, by decide +kernel⟩, List.mem_of_getElem? (i := 487) (by decide +kernel), List.mem_of_getElem? (i := 652) (by decide +kernel), List.mem_of_getElem? (i := 653) (by decide +kernel)⟩
theorem lw_p52 : lw_okq (⟨"PlanBoundsModel", "weight", "(I)J"⟩, 19) := ⟨⟨by decide +kernel, by decide +kernel⟩, List.mem_of_getElem? (i := 487) (by decide +kernel), List.mem_of_getElem? (i := 660) (by decide +kernel), List.mem_of_getElem? (i := 661) (by decide +kernel)⟩
def lw_privs_4 : List (MethodName × Nat) := [(⟨"PlanBoundsModel", "isPart", "(I)Z"⟩, 19), (⟨"PlanBoundsModel", "fraction", "(JI)J"⟩, 19), (⟨"PlanBoundsModel", "amount", "(I)J"⟩, 19), (⟨"PlanBoundsModel", "price", "(I)J"⟩, 19), (⟨"PlanBoundsModel", "weight", "(I)J"⟩, 19)]
theorem lw_r4 : ∀ q ∈ lw_privs_4, lw_okq q := List.forall_mem_cons.mpr ⟨lw_p48, List.forall_mem_cons.mpr ⟨lw_p49, List.forall_mem_cons.mpr ⟨lw_p50, List.forall_mem_cons.mpr ⟨lw_p51, List.forall_mem_cons.mpr ⟨lw_p52, fun _ h => absurd h List.not_mem_nil⟩⟩⟩⟩⟩
def lw_privs : List (MethodName × Nat) := lw_privs_1 ++ (lw_privs_2 ++ (lw_privs_3 ++ (lw_privs_4)))
def lw_tbl : List Cond := k2_sels lw_privs ++ tables_1
theorem lw_privs_ok : ∀ q ∈ lw_privs, lw_okq q := by
  show ∀ q ∈ lw_privs_1 ++ (lw_privs_2 ++ (lw_privs_3 ++ (lw_privs_4))), lw_okq q
  exact List.forall_mem_append.mpr ⟨lw_r1, List.forall_mem_append.mpr ⟨lw_r2, List.forall_mem_append.mpr ⟨lw_r3, lw_r4⟩⟩⟩
end
section
/-! the words that are good for every callee, and where each lies -/
def AW : List Cond := lw_tbl.filter goodWord
theorem AW_in {w : Cond} (h : w ∈ AW) : w ∈ lw_tbl := (List.mem_filter.mp h).1
theorem AW_ok {w : Cond} (h : w ∈ AW) : (w.onTables && w.keeps) = true ∨ ∃ ty, w = .arrayClass ty := good_of_word (List.mem_filter.mp h).2
def RT : String := "PlanBounds$Table"
def FT : u_T := fun k => match k with
  | 0 => ("PlanBounds$Table", "cells", "[J", true)
  | 1 => ("PlanBounds$Table", "inside", "[I", true)
  | 2 => ("PlanBounds$Table", "outside", "[I", true)
  | 3 => ("PlanBounds$Table", "told", "[J", true)
  | 4 => ("PlanBounds$Table", "starts", "[J", true)
  | 5 => ("PlanBounds$Table", "width", "I", false)
  | 6 => ("PlanBounds$Table", "height", "I", false)
  | _ => ("PlanBounds$Table", "d", "J", false)
def tT : Nat → FieldType := fun k => match k with
  | 0 => .array .long
  | 1 => .array .int
  | 2 => .array .int
  | 3 => .array .long
  | 4 => .array .long
  | 5 => .int
  | 6 => .int
  | _ => .long
theorem nT : ∀ a, a < 8 → ∀ b, b < 8 → a ≠ b → (FT a).2.1 ≠ (FT b).2.1 := by decide +kernel
theorem tT_ok : ∀ k, k < 8 → parseFieldDescriptor (FT k).2.2.1 = some (tT k) := by decide +kernel
def RP : String := "PlanBounds"
def FP : u_T := fun k => match k with
  | 0 => ("PlanBounds", "weeks", "I", true)
  | 1 => ("PlanBounds", "kinds", "[I", true)
  | 2 => ("PlanBounds", "weeksOfRows", "[I", true)
  | 3 => ("PlanBounds", "rights", "[J", true)
  | 4 => ("PlanBounds", "factors", "[I", true)
  | 5 => ("PlanBounds", "firstLines", "[I", true)
  | 6 => ("PlanBounds", "table", "LPlanBounds$Table;", true)
  | 7 => ("PlanBounds", "rows", "I", false)
  | 8 => ("PlanBounds", "rowsInTable", "I", false)
  | 9 => ("PlanBounds", "stepsDone", "I", false)
  | 10 => ("PlanBounds", "hasRun", "Z", false)
  | _ => ("PlanBounds", "latest", "I", false)
def tP : Nat → FieldType := fun k => match k with
  | 0 => .int
  | 1 => .array .int
  | 2 => .array .int
  | 3 => .array .long
  | 4 => .array .int
  | 5 => .array .int
  | 6 => .object "PlanBounds$Table"
  | 7 => .int
  | 8 => .int
  | 9 => .int
  | 10 => .boolean
  | _ => .int
theorem nP : ∀ a, a < 12 → ∀ b, b < 12 → a ≠ b → (FP a).2.1 ≠ (FP b).2.1 := by decide +kernel
theorem tP_ok : ∀ k, k < 12 → parseFieldDescriptor (FP k).2.2.1 = some (tP k) := by decide +kernel
def RM : String := "PlanBoundsModel"
def FM : u_T := fun k => match k with
  | 0 => ("PlanBoundsModel", "thrown", "I", false)
  | 1 => ("PlanBoundsModel", "weeks", "I", true)
  | 2 => ("PlanBoundsModel", "columns", "I", false)
  | 3 => ("PlanBoundsModel", "costs", "[J", true)
  | 4 => ("PlanBoundsModel", "rows", "I", false)
  | 5 => ("PlanBoundsModel", "kinds", "[I", true)
  | 6 => ("PlanBoundsModel", "weekOf", "[I", true)
  | 7 => ("PlanBoundsModel", "rights", "[J", true)
  | 8 => ("PlanBoundsModel", "factors", "[J", true)
  | 9 => ("PlanBoundsModel", "lineOf", "[I", true)
  | 10 => ("PlanBoundsModel", "lines", "I", false)
  | 11 => ("PlanBoundsModel", "hasRun", "Z", false)
  | 12 => ("PlanBoundsModel", "steps", "I", false)
  | 13 => ("PlanBoundsModel", "down", "J", false)
  | 14 => ("PlanBoundsModel", "place", "[I", true)
  | 15 => ("PlanBoundsModel", "outside", "[I", true)
  | 16 => ("PlanBoundsModel", "table", "[J", true)
  | 17 => ("PlanBoundsModel", "next", "[J", true)
  | _ => ("PlanBoundsModel", "against", "I", false)
def tM : Nat → FieldType := fun k => match k with
  | 0 => .int
  | 1 => .int
  | 2 => .int
  | 3 => .array .long
  | 4 => .int
  | 5 => .array .int
  | 6 => .array .int
  | 7 => .array .long
  | 8 => .array .long
  | 9 => .array .int
  | 10 => .int
  | 11 => .boolean
  | 12 => .int
  | 13 => .long
  | 14 => .array .int
  | 15 => .array .int
  | 16 => .array .long
  | 17 => .array .long
  | _ => .int
theorem nM : ∀ a, a < 19 → ∀ b, b < 19 → a ≠ b → (FM a).2.1 ≠ (FM b).2.1 := by decide +kernel
theorem tM_ok : ∀ k, k < 19 → parseFieldDescriptor (FM k).2.2.1 = some (tM k) := by decide +kernel
def RL : String := "PlanBoundsLaw"
abbrev vwCl : List vw_C := [(RT, FT, 8), (RP, FP, 12), (RM, FM, 19)]
def yT_init : MethodName := ⟨"PlanBounds$Table", "<init>", "()V"⟩
abbrev bT_init : ByteArray := prog_2_method_1_code
def yT_sumOfStarts : MethodName := ⟨"PlanBounds$Table", "sumOfStarts", "([II)J"⟩
abbrev bT_sumOfStarts : ByteArray := prog_2_method_10_code
def yT_startOf : MethodName := ⟨"PlanBounds$Table", "startOf", "(I)J"⟩
abbrev bT_startOf : ByteArray := prog_2_method_8_code
def yT_placeInside : MethodName := ⟨"PlanBounds$Table", "placeInside", "(I)I"⟩
abbrev bT_placeInside : ByteArray := prog_2_method_6_code
def yT_cell : MethodName := ⟨"PlanBounds$Table", "cell", "(II)J"⟩
abbrev bT_cell : ByteArray := prog_2_method_2_code
def yT_addColumn : MethodName := ⟨"PlanBounds$Table", "addColumn", "(J)I"⟩
abbrev bT_addColumn : ByteArray := prog_2_method_5_code
def yT_setCell : MethodName := ⟨"PlanBounds$Table", "setCell", "(IIJ)V"⟩
abbrev bT_setCell : ByteArray := prog_2_method_3_code
def yT_copyStarts : MethodName := ⟨"PlanBounds$Table", "copyStarts", "()V"⟩
abbrev bT_copyStarts : ByteArray := prog_2_method_24_code
def yT_moveCopied : MethodName := ⟨"PlanBounds$Table", "moveCopied", "(IJ)V"⟩
abbrev bT_moveCopied : ByteArray := prog_2_method_25_code
def yT_placeOutside : MethodName := ⟨"PlanBounds$Table", "placeOutside", "(I)I"⟩
abbrev bT_placeOutside : ByteArray := prog_2_method_7_code
def yT_takeCopiedStarts : MethodName := ⟨"PlanBounds$Table", "takeCopiedStarts", "()Z"⟩
abbrev bT_takeCopiedStarts : ByteArray := prog_2_method_26_code
def yT_fits : MethodName := ⟨"PlanBounds$Table", "fits", "(J)Z"⟩
abbrev bT_fits : ByteArray := prog_2_method_4_code
def yT_tell : MethodName := ⟨"PlanBounds$Table", "tell", "([IIJ)V"⟩
abbrev bT_tell : ByteArray := prog_2_method_11_code
def yT_tellColumn : MethodName := ⟨"PlanBounds$Table", "tellColumn", "(IJ)V"⟩
abbrev bT_tellColumn : ByteArray := prog_2_method_12_code
def yT_toldFits : MethodName := ⟨"PlanBounds$Table", "toldFits", "()Z"⟩
abbrev bT_toldFits : ByteArray := prog_2_method_13_code
def yT_bringTold : MethodName := ⟨"PlanBounds$Table", "bringTold", "(I)V"⟩
abbrev bT_bringTold : ByteArray := prog_2_method_14_code
def yT_leavingPlace : MethodName := ⟨"PlanBounds$Table", "leavingPlace", "()I"⟩
abbrev bT_leavingPlace : ByteArray := prog_2_method_15_code
def yT_enteringPlace : MethodName := ⟨"PlanBounds$Table", "enteringPlace", "(I)I"⟩
abbrev bT_enteringPlace : ByteArray := prog_2_method_16_code
def yT_entersBefore : MethodName := ⟨"PlanBounds$Table", "entersBefore", "(III)Z"⟩
abbrev bT_entersBefore : ByteArray := prog_2_method_17_code
def yT_stepFits : MethodName := ⟨"PlanBounds$Table", "stepFits", "(II)Z"⟩
abbrev bT_stepFits : ByteArray := prog_2_method_19_code
def yT_otherFits : MethodName := ⟨"PlanBounds$Table", "otherFits", "(III)Z"⟩
abbrev bT_otherFits : ByteArray := prog_2_method_20_code
def yT_afterStep : MethodName := ⟨"PlanBounds$Table", "afterStep", "(JJJJ)J"⟩
abbrev bT_afterStep : ByteArray := prog_2_method_18_code
def yT_change : MethodName := ⟨"PlanBounds$Table", "change", "(II)V"⟩
abbrev bT_change : ByteArray := prog_2_method_21_code
def yT_changeOther : MethodName := ⟨"PlanBounds$Table", "changeOther", "(III)V"⟩
abbrev bT_changeOther : ByteArray := prog_2_method_22_code
def yT_changeEntered : MethodName := ⟨"PlanBounds$Table", "changeEntered", "(II)V"⟩
abbrev bT_changeEntered : ByteArray := prog_2_method_23_code
def yT_numberBy : MethodName := ⟨"PlanBounds$Table", "numberBy", "(II)J"⟩
abbrev bT_numberBy : ByteArray := prog_2_method_9_code
def yP_init : MethodName := ⟨"PlanBounds", "<init>", "(I)V"⟩
abbrev bP_init : ByteArray := prog_1_method_1_code
def yP_check : MethodName := ⟨"PlanBounds", "check", "()I"⟩
abbrev bP_check : ByteArray := prog_1_method_12_code
def yP_isKept : MethodName := ⟨"PlanBounds", "isKept", "(I)Z"⟩
abbrev bP_isKept : ByteArray := prog_1_method_23_code
def yP_factorPlace : MethodName := ⟨"PlanBounds", "factorPlace", "(II)I"⟩
abbrev bP_factorPlace : ByteArray := prog_1_method_21_code
def yP_steps : MethodName := ⟨"PlanBounds", "steps", "()I"⟩
abbrev bP_steps : ByteArray := prog_1_method_13_code
def yP_count : MethodName := ⟨"PlanBounds", "count", "(I)I"⟩
abbrev bP_count : ByteArray := prog_1_method_14_code
def yP_rowsOfWeek : MethodName := ⟨"PlanBounds", "rowsOfWeek", "(I)I"⟩
abbrev bP_rowsOfWeek : ByteArray := prog_1_method_22_code
def yP_column : MethodName := ⟨"PlanBounds", "column", "(J)I"⟩
abbrev bP_column : ByteArray := prog_1_method_2_code
def yP_row : MethodName := ⟨"PlanBounds", "row", "(IIJ)I"⟩
abbrev bP_row : ByteArray := prog_1_method_3_code
def yP_needRoomForRow : MethodName := ⟨"PlanBounds", "needRoomForRow", "()V"⟩
abbrev bP_needRoomForRow : ByteArray := prog_1_method_17_code
def yP_needRight : MethodName := ⟨"PlanBounds", "needRight", "(J)V"⟩
abbrev bP_needRight : ByteArray := prog_1_method_18_code
def yP_addRow : MethodName := ⟨"PlanBounds", "addRow", "(IIJ)I"⟩
abbrev bP_addRow : ByteArray := prog_1_method_20_code
def yP_factor : MethodName := ⟨"PlanBounds", "factor", "(III)I"⟩
abbrev bP_factor : ByteArray := prog_1_method_4_code
def yP_needRow : MethodName := ⟨"PlanBounds", "needRow", "(I)V"⟩
abbrev bP_needRow : ByteArray := prog_1_method_16_code
def yP_needColumn : MethodName := ⟨"PlanBounds", "needColumn", "(I)V"⟩
abbrev bP_needColumn : ByteArray := prog_1_method_15_code
def yP_cut : MethodName := ⟨"PlanBounds", "cut", "(II)I"⟩
abbrev bP_cut : ByteArray := prog_1_method_5_code
def yP_right : MethodName := ⟨"PlanBounds", "right", "(IJ)Z"⟩
abbrev bP_right : ByteArray := prog_1_method_6_code
def yP_moveStarts : MethodName := ⟨"PlanBounds", "moveStarts", "(IJ)Z"⟩
abbrev bP_moveStarts : ByteArray := prog_1_method_31_code
def yP_linesOf : MethodName := ⟨"PlanBounds", "linesOf", "(I)I"⟩
abbrev bP_linesOf : ByteArray := prog_1_method_24_code
def yP_variableOf : MethodName := ⟨"PlanBounds", "variableOf", "(II)I"⟩
abbrev bP_variableOf : ByteArray := prog_1_method_27_code
def yP_signOf : MethodName := ⟨"PlanBounds", "signOf", "(II)I"⟩
abbrev bP_signOf : ByteArray := prog_1_method_26_code
def yP_run : MethodName := ⟨"PlanBounds", "run", "(I)I"⟩
abbrev bP_run : ByteArray := prog_1_method_7_code
def yP_bringRows : MethodName := ⟨"PlanBounds", "bringRows", "()Z"⟩
abbrev bP_bringRows : ByteArray := prog_1_method_28_code
def yP_bringRow : MethodName := ⟨"PlanBounds", "bringRow", "(I)Z"⟩
abbrev bP_bringRow : ByteArray := prog_1_method_29_code
def yP_doSteps : MethodName := ⟨"PlanBounds", "doSteps", "(I)I"⟩
abbrev bP_doSteps : ByteArray := prog_1_method_30_code
def yP_value : MethodName := ⟨"PlanBounds", "value", "(I)J"⟩
abbrev bP_value : ByteArray := prog_1_method_8_code
def yP_needPart : MethodName := ⟨"PlanBounds", "needPart", "(I)V"⟩
abbrev bP_needPart : ByteArray := prog_1_method_19_code
def yP_inLeastTerms : MethodName := ⟨"PlanBounds", "inLeastTerms", "(JJI)J"⟩
abbrev bP_inLeastTerms : ByteArray := prog_1_method_33_code
def yP_greatestCommon : MethodName := ⟨"PlanBounds", "greatestCommon", "(JJ)J"⟩
abbrev bP_greatestCommon : ByteArray := prog_1_method_34_code
def yP_share : MethodName := ⟨"PlanBounds", "share", "(II)J"⟩
abbrev bP_share : ByteArray := prog_1_method_9_code
def yP_dual : MethodName := ⟨"PlanBounds", "dual", "(II)J"⟩
abbrev bP_dual : ByteArray := prog_1_method_10_code
def yP_linesInTable : MethodName := ⟨"PlanBounds", "linesInTable", "(I)I"⟩
abbrev bP_linesInTable : ByteArray := prog_1_method_25_code
def yP_factorOf : MethodName := ⟨"PlanBounds", "factorOf", "(II)J"⟩
abbrev bP_factorOf : ByteArray := prog_1_method_11_code
def yP_timesTaken : MethodName := ⟨"PlanBounds", "timesTaken", "(II)J"⟩
abbrev bP_timesTaken : ByteArray := prog_1_method_32_code
def yM_init : MethodName := ⟨"PlanBoundsModel", "<init>", "(I)V"⟩
abbrev bM_init : ByteArray := prog_4_method_1_code
def yM_thrown : MethodName := ⟨"PlanBoundsModel", "thrown", "()I"⟩
abbrev bM_thrown : ByteArray := prog_4_method_2_code
def yM_column : MethodName := ⟨"PlanBoundsModel", "column", "(J)I"⟩
abbrev bM_column : ByteArray := prog_4_method_5_code
def yM_isIn : MethodName := ⟨"PlanBoundsModel", "isIn", "(JJJ)Z"⟩
abbrev bM_isIn : ByteArray := prog_4_method_3_code
def yM_row : MethodName := ⟨"PlanBoundsModel", "row", "(IIJ)I"⟩
abbrev bM_row : ByteArray := prog_4_method_7_code
def yM_add : MethodName := ⟨"PlanBoundsModel", "add", "(IIJ)I"⟩
abbrev bM_add : ByteArray := prog_4_method_6_code
def yM_factor : MethodName := ⟨"PlanBoundsModel", "factor", "(III)I"⟩
abbrev bM_factor : ByteArray := prog_4_method_8_code
def yM_cut : MethodName := ⟨"PlanBoundsModel", "cut", "(II)I"⟩
abbrev bM_cut : ByteArray := prog_4_method_9_code
def yM_right : MethodName := ⟨"PlanBoundsModel", "right", "(IJ)Z"⟩
abbrev bM_right : ByteArray := prog_4_method_12_code
def yM_isInside : MethodName := ⟨"PlanBoundsModel", "isInside", "(I)Z"⟩
abbrev bM_isInside : ByteArray := prog_4_method_11_code
def yM_moved : MethodName := ⟨"PlanBoundsModel", "moved", "(IIJ)J"⟩
abbrev bM_moved : ByteArray := prog_4_method_10_code
def yM_isGreat : MethodName := ⟨"PlanBoundsModel", "isGreat", "(J)Z"⟩
abbrev bM_isGreat : ByteArray := prog_4_method_4_code
def yM_run : MethodName := ⟨"PlanBoundsModel", "run", "(I)I"⟩
abbrev bM_run : ByteArray := prog_4_method_18_code
def yM_comes : MethodName := ⟨"PlanBoundsModel", "comes", "(I)Z"⟩
abbrev bM_comes : ByteArray := prog_4_method_14_code
def yM_sum : MethodName := ⟨"PlanBoundsModel", "sum", "(II)J"⟩
abbrev bM_sum : ByteArray := prog_4_method_13_code
def yM_leaving : MethodName := ⟨"PlanBoundsModel", "leaving", "()I"⟩
abbrev bM_leaving : ByteArray := prog_4_method_15_code
def yM_entering : MethodName := ⟨"PlanBoundsModel", "entering", "(I)I"⟩
abbrev bM_entering : ByteArray := prog_4_method_16_code
def yM_step : MethodName := ⟨"PlanBoundsModel", "step", "(II)Z"⟩
abbrev bM_step : ByteArray := prog_4_method_17_code
def yM_value : MethodName := ⟨"PlanBoundsModel", "value", "(I)J"⟩
abbrev bM_value : ByteArray := prog_4_method_22_code
def yM_isPart : MethodName := ⟨"PlanBoundsModel", "isPart", "(I)Z"⟩
abbrev bM_isPart : ByteArray := prog_4_method_21_code
def yM_fraction : MethodName := ⟨"PlanBoundsModel", "fraction", "(JI)J"⟩
abbrev bM_fraction : ByteArray := prog_4_method_20_code
def yM_size : MethodName := ⟨"PlanBoundsModel", "size", "(J)J"⟩
abbrev bM_size : ByteArray := prog_4_method_19_code
def yM_share : MethodName := ⟨"PlanBoundsModel", "share", "(II)J"⟩
abbrev bM_share : ByteArray := prog_4_method_24_code
def yM_amount : MethodName := ⟨"PlanBoundsModel", "amount", "(I)J"⟩
abbrev bM_amount : ByteArray := prog_4_method_23_code
def yM_dual : MethodName := ⟨"PlanBoundsModel", "dual", "(II)J"⟩
abbrev bM_dual : ByteArray := prog_4_method_26_code
def yM_price : MethodName := ⟨"PlanBoundsModel", "price", "(I)J"⟩
abbrev bM_price : ByteArray := prog_4_method_25_code
def yM_factorOf : MethodName := ⟨"PlanBoundsModel", "factorOf", "(II)J"⟩
abbrev bM_factorOf : ByteArray := prog_4_method_28_code
def yM_weight : MethodName := ⟨"PlanBoundsModel", "weight", "(I)J"⟩
abbrev bM_weight : ByteArray := prog_4_method_27_code
def yM_check : MethodName := ⟨"PlanBoundsModel", "check", "()I"⟩
abbrev bM_check : ByteArray := prog_4_method_29_code
def yM_steps : MethodName := ⟨"PlanBoundsModel", "steps", "()I"⟩
abbrev bM_steps : ByteArray := prog_4_method_30_code
def yM_count : MethodName := ⟨"PlanBoundsModel", "count", "(I)I"⟩
abbrev bM_count : ByteArray := prog_4_method_31_code
def yL_cell : MethodName := ⟨"PlanBoundsLaw", "cell", "([II)I"⟩
abbrev bL_cell : ByteArray := method_2_code
def yL_column : MethodName := ⟨"PlanBoundsLaw", "column", "(LPlanBounds;J[J)I"⟩
abbrev bL_column : ByteArray := method_3_code
def yL_row : MethodName := ⟨"PlanBoundsLaw", "row", "(LPlanBounds;IIJ[J)I"⟩
abbrev bL_row : ByteArray := method_4_code
def yL_factor : MethodName := ⟨"PlanBoundsLaw", "factor", "(LPlanBounds;III[J)I"⟩
abbrev bL_factor : ByteArray := method_5_code
def yL_cut : MethodName := ⟨"PlanBoundsLaw", "cut", "(LPlanBounds;II[J)I"⟩
abbrev bL_cut : ByteArray := method_6_code
def yL_right : MethodName := ⟨"PlanBoundsLaw", "right", "(LPlanBounds;IJ[J)I"⟩
abbrev bL_right : ByteArray := method_7_code
def yL_run : MethodName := ⟨"PlanBoundsLaw", "run", "(LPlanBounds;I[J)I"⟩
abbrev bL_run : ByteArray := method_8_code
def yL_value : MethodName := ⟨"PlanBoundsLaw", "value", "(LPlanBounds;I[J)I"⟩
abbrev bL_value : ByteArray := method_9_code
def yL_share : MethodName := ⟨"PlanBoundsLaw", "share", "(LPlanBounds;II[J)I"⟩
abbrev bL_share : ByteArray := method_10_code
def yL_dual : MethodName := ⟨"PlanBoundsLaw", "dual", "(LPlanBounds;II[J)I"⟩
abbrev bL_dual : ByteArray := method_11_code
def yL_factorOf : MethodName := ⟨"PlanBoundsLaw", "factorOf", "(LPlanBounds;II[J)I"⟩
abbrev bL_factorOf : ByteArray := method_12_code
def yA_fill : MethodName := ⟨"java/util/Arrays", "fill", "([JJ)V"⟩
abbrev bA_fill : ByteArray := prog_13_method_101_code
abbrev wP_init : List Cond := Cond.code yP_init bP_init 2 (Option.none : Option FieldType) :: AW
abbrev wT_init : List Cond := Cond.code yT_init bT_init 1 (Option.none : Option FieldType) :: AW
abbrev wP_check : List Cond := Cond.code yP_check bP_check 2 (Option.some FieldType.int) :: AW
abbrev wP_isKept : List Cond := Cond.code yP_isKept bP_isKept 4 (Option.some FieldType.boolean) :: AW
abbrev wP_factorPlace : List Cond := Cond.code yP_factorPlace bP_factorPlace 2 (Option.some FieldType.int) :: AW
abbrev wT_sumOfStarts : List Cond := Cond.code yT_sumOfStarts bT_sumOfStarts 6 (Option.some FieldType.long) :: AW
abbrev wT_startOf : List Cond := Cond.code yT_startOf bT_startOf 3 (Option.some FieldType.long) :: AW
abbrev wT_placeInside : List Cond := Cond.code yT_placeInside bT_placeInside 3 (Option.some FieldType.int) :: AW
abbrev wT_cell : List Cond := Cond.code yT_cell bT_cell 3 (Option.some FieldType.long) :: AW
abbrev wP_steps : List Cond := Cond.code yP_steps bP_steps 1 (Option.some FieldType.int) :: AW
abbrev wP_count : List Cond := Cond.code yP_count bP_count 2 (Option.some FieldType.int) :: AW
abbrev wP_rowsOfWeek : List Cond := Cond.code yP_rowsOfWeek bP_rowsOfWeek 4 (Option.some FieldType.int) :: AW
abbrev wL_cell : List Cond := Cond.code yL_cell bL_cell 2 (Option.some FieldType.int) :: AW
abbrev wL_column : List Cond := Cond.codeWith yL_column bL_column 5 (Option.some FieldType.int) [((0 : Nat), (9 : Nat), (12 : Nat), (13 : Nat)), ((0 : Nat), (9 : Nat), (16 : Nat), (15 : Nat))] :: AW
abbrev wP_column : List Cond := Cond.code yP_column bP_column 3 (Option.some FieldType.int) :: AW
abbrev wT_addColumn : List Cond := Cond.code yT_addColumn bT_addColumn 4 (Option.some FieldType.int) :: AW
abbrev wT_setCell : List Cond := Cond.code yT_setCell bT_setCell 5 (Option.none : Option FieldType) :: AW
abbrev wL_row : List Cond := Cond.codeWith yL_row bL_row 7 (Option.some FieldType.int) [((0 : Nat), (12 : Nat), (15 : Nat), (13 : Nat)), ((0 : Nat), (12 : Nat), (19 : Nat), (15 : Nat))] :: AW
abbrev wP_row : List Cond := Cond.code yP_row bP_row 5 (Option.some FieldType.int) :: AW
abbrev wP_needRoomForRow : List Cond := Cond.code yP_needRoomForRow bP_needRoomForRow 1 (Option.none : Option FieldType) :: AW
abbrev wP_needRight : List Cond := Cond.code yP_needRight bP_needRight 2 (Option.none : Option FieldType) :: AW
abbrev wP_addRow : List Cond := Cond.code yP_addRow bP_addRow 6 (Option.some FieldType.int) :: AW
abbrev wL_factor : List Cond := Cond.codeWith yL_factor bL_factor 6 (Option.some FieldType.int) [((0 : Nat), (12 : Nat), (15 : Nat), (25 : Nat)), ((0 : Nat), (12 : Nat), (19 : Nat), (13 : Nat)), ((0 : Nat), (12 : Nat), (23 : Nat), (15 : Nat))] :: AW
abbrev wP_factor : List Cond := Cond.code yP_factor bP_factor 5 (Option.some FieldType.int) :: AW
abbrev wP_needRow : List Cond := Cond.code yP_needRow bP_needRow 2 (Option.none : Option FieldType) :: AW
abbrev wP_needColumn : List Cond := Cond.code yP_needColumn bP_needColumn 2 (Option.none : Option FieldType) :: AW
abbrev wL_cut : List Cond := Cond.codeWith yL_cut bL_cut 5 (Option.some FieldType.int) [((0 : Nat), (10 : Nat), (13 : Nat), (25 : Nat)), ((0 : Nat), (10 : Nat), (17 : Nat), (13 : Nat)), ((0 : Nat), (10 : Nat), (21 : Nat), (15 : Nat))] :: AW
abbrev wP_cut : List Cond := Cond.code yP_cut bP_cut 4 (Option.some FieldType.int) :: AW
abbrev wL_right : List Cond := Cond.codeWith yL_right bL_right 6 (Option.some FieldType.int) [((0 : Nat), (18 : Nat), (21 : Nat), (25 : Nat)), ((0 : Nat), (18 : Nat), (25 : Nat), (15 : Nat))] :: AW
abbrev wP_right : List Cond := Cond.code yP_right bP_right 4 (Option.some FieldType.boolean) :: AW
abbrev wP_moveStarts : List Cond := Cond.code yP_moveStarts bP_moveStarts 5 (Option.some FieldType.boolean) :: AW
abbrev wT_copyStarts : List Cond := Cond.code yT_copyStarts bT_copyStarts 2 (Option.none : Option FieldType) :: AW
abbrev wP_linesOf : List Cond := Cond.code yP_linesOf bP_linesOf 2 (Option.some FieldType.int) :: AW
abbrev wP_variableOf : List Cond := Cond.code yP_variableOf bP_variableOf 3 (Option.some FieldType.int) :: AW
abbrev wP_signOf : List Cond := Cond.code yP_signOf bP_signOf 3 (Option.some FieldType.int) :: AW
abbrev wT_moveCopied : List Cond := Cond.code yT_moveCopied bT_moveCopied 7 (Option.none : Option FieldType) :: AW
abbrev wT_placeOutside : List Cond := Cond.code yT_placeOutside bT_placeOutside 3 (Option.some FieldType.int) :: AW
abbrev wT_takeCopiedStarts : List Cond := Cond.code yT_takeCopiedStarts bT_takeCopiedStarts 2 (Option.some FieldType.boolean) :: AW
abbrev wT_fits : List Cond := Cond.code yT_fits bT_fits 2 (Option.some FieldType.boolean) :: AW
abbrev wL_run : List Cond := Cond.codeWith yL_run bL_run 4 (Option.some FieldType.int) [((0 : Nat), (9 : Nat), (12 : Nat), (15 : Nat))] :: AW
abbrev wP_run : List Cond := Cond.code yP_run bP_run 2 (Option.some FieldType.int) :: AW
abbrev wP_bringRows : List Cond := Cond.code yP_bringRows bP_bringRows 2 (Option.some FieldType.boolean) :: AW
abbrev wP_bringRow : List Cond := Cond.code yP_bringRow bP_bringRow 3 (Option.some FieldType.boolean) :: AW
abbrev wT_tell : List Cond := Cond.code yT_tell bT_tell 6 (Option.none : Option FieldType) :: AW
abbrev wA_fill : List Cond := Cond.code yA_fill bA_fill 5 (Option.none : Option FieldType) :: AW
abbrev wT_tellColumn : List Cond := Cond.code yT_tellColumn bT_tellColumn 7 (Option.none : Option FieldType) :: AW
abbrev wT_toldFits : List Cond := Cond.code yT_toldFits bT_toldFits 2 (Option.some FieldType.boolean) :: AW
abbrev wT_bringTold : List Cond := Cond.code yT_bringTold bT_bringTold 4 (Option.none : Option FieldType) :: AW
abbrev wP_doSteps : List Cond := Cond.code yP_doSteps bP_doSteps 5 (Option.some FieldType.int) :: AW
abbrev wT_leavingPlace : List Cond := Cond.code yT_leavingPlace bT_leavingPlace 3 (Option.some FieldType.int) :: AW
abbrev wT_enteringPlace : List Cond := Cond.code yT_enteringPlace bT_enteringPlace 4 (Option.some FieldType.int) :: AW
abbrev wT_entersBefore : List Cond := Cond.code yT_entersBefore bT_entersBefore 8 (Option.some FieldType.boolean) :: AW
abbrev wT_stepFits : List Cond := Cond.code yT_stepFits bT_stepFits 4 (Option.some FieldType.boolean) :: AW
abbrev wT_otherFits : List Cond := Cond.code yT_otherFits bT_otherFits 9 (Option.some FieldType.boolean) :: AW
abbrev wT_afterStep : List Cond := Cond.code yT_afterStep bT_afterStep 9 (Option.some FieldType.long) :: AW
abbrev wT_change : List Cond := Cond.code yT_change bT_change 6 (Option.none : Option FieldType) :: AW
abbrev wT_changeOther : List Cond := Cond.code yT_changeOther bT_changeOther 9 (Option.none : Option FieldType) :: AW
abbrev wT_changeEntered : List Cond := Cond.code yT_changeEntered bT_changeEntered 4 (Option.none : Option FieldType) :: AW
abbrev wL_value : List Cond := Cond.codeWith yL_value bL_value 4 (Option.some FieldType.int) [((0 : Nat), (8 : Nat), (11 : Nat), (15 : Nat))] :: AW
abbrev wP_value : List Cond := Cond.code yP_value bP_value 2 (Option.some FieldType.long) :: AW
abbrev wP_needPart : List Cond := Cond.code yP_needPart bP_needPart 1 (Option.none : Option FieldType) :: AW
abbrev wP_inLeastTerms : List Cond := Cond.code yP_inLeastTerms bP_inLeastTerms 9 (Option.some FieldType.long) :: AW
abbrev wP_greatestCommon : List Cond := Cond.code yP_greatestCommon bP_greatestCommon 7 (Option.some FieldType.long) :: AW
abbrev wL_share : List Cond := Cond.codeWith yL_share bL_share 5 (Option.some FieldType.int) [((0 : Nat), (9 : Nat), (12 : Nat), (25 : Nat)), ((0 : Nat), (9 : Nat), (16 : Nat), (15 : Nat))] :: AW
abbrev wP_share : List Cond := Cond.code yP_share bP_share 3 (Option.some FieldType.long) :: AW
abbrev wL_dual : List Cond := Cond.codeWith yL_dual bL_dual 5 (Option.some FieldType.int) [((0 : Nat), (9 : Nat), (12 : Nat), (25 : Nat)), ((0 : Nat), (9 : Nat), (16 : Nat), (15 : Nat))] :: AW
abbrev wP_dual : List Cond := Cond.code yP_dual bP_dual 6 (Option.some FieldType.long) :: AW
abbrev wP_linesInTable : List Cond := Cond.code yP_linesInTable bP_linesInTable 2 (Option.some FieldType.int) :: AW
abbrev wT_numberBy : List Cond := Cond.code yT_numberBy bT_numberBy 4 (Option.some FieldType.long) :: AW
abbrev wL_factorOf : List Cond := Cond.codeWith yL_factorOf bL_factorOf 5 (Option.some FieldType.int) [((0 : Nat), (9 : Nat), (12 : Nat), (25 : Nat)), ((0 : Nat), (9 : Nat), (16 : Nat), (13 : Nat)), ((0 : Nat), (9 : Nat), (20 : Nat), (15 : Nat))] :: AW
abbrev wP_factorOf : List Cond := Cond.code yP_factorOf bP_factorOf 7 (Option.some FieldType.long) :: AW
abbrev wP_timesTaken : List Cond := Cond.code yP_timesTaken bP_timesTaken 3 (Option.some FieldType.long) :: AW
abbrev wM_init : List Cond := Cond.code yM_init bM_init 3 (Option.none : Option FieldType) :: AW
abbrev wM_thrown : List Cond := Cond.code yM_thrown bM_thrown 1 (Option.some FieldType.int) :: AW
abbrev wM_column : List Cond := Cond.code yM_column bM_column 3 (Option.some FieldType.int) :: AW
abbrev wM_isIn : List Cond := Cond.code yM_isIn bM_isIn 6 (Option.some FieldType.boolean) :: AW
abbrev wM_row : List Cond := Cond.code yM_row bM_row 5 (Option.some FieldType.int) :: AW
abbrev wM_add : List Cond := Cond.code yM_add bM_add 5 (Option.some FieldType.int) :: AW
abbrev wM_factor : List Cond := Cond.code yM_factor bM_factor 5 (Option.some FieldType.int) :: AW
abbrev wM_cut : List Cond := Cond.code yM_cut bM_cut 3 (Option.some FieldType.int) :: AW
abbrev wM_right : List Cond := Cond.code yM_right bM_right 11 (Option.some FieldType.boolean) :: AW
abbrev wM_isInside : List Cond := Cond.code yM_isInside bM_isInside 2 (Option.some FieldType.boolean) :: AW
abbrev wM_moved : List Cond := Cond.code yM_moved bM_moved 5 (Option.some FieldType.long) :: AW
abbrev wM_isGreat : List Cond := Cond.code yM_isGreat bM_isGreat 2 (Option.some FieldType.boolean) :: AW
abbrev wM_run : List Cond := Cond.code yM_run bM_run 5 (Option.some FieldType.int) :: AW
abbrev wM_comes : List Cond := Cond.code yM_comes bM_comes 9 (Option.some FieldType.boolean) :: AW
abbrev wM_sum : List Cond := Cond.code yM_sum bM_sum 8 (Option.some FieldType.long) :: AW
abbrev wM_leaving : List Cond := Cond.code yM_leaving bM_leaving 2 (Option.some FieldType.int) :: AW
abbrev wM_entering : List Cond := Cond.code yM_entering bM_entering 10 (Option.some FieldType.int) :: AW
abbrev wM_step : List Cond := Cond.code yM_step bM_step 11 (Option.some FieldType.boolean) :: AW
abbrev wM_value : List Cond := Cond.code yM_value bM_value 2 (Option.some FieldType.long) :: AW
abbrev wM_isPart : List Cond := Cond.code yM_isPart bM_isPart 2 (Option.some FieldType.boolean) :: AW
abbrev wM_fraction : List Cond := Cond.code yM_fraction bM_fraction 10 (Option.some FieldType.long) :: AW
abbrev wM_size : List Cond := Cond.code yM_size bM_size 2 (Option.some FieldType.long) :: AW
abbrev wM_share : List Cond := Cond.code yM_share bM_share 3 (Option.some FieldType.long) :: AW
abbrev wM_amount : List Cond := Cond.code yM_amount bM_amount 2 (Option.some FieldType.long) :: AW
abbrev wM_dual : List Cond := Cond.code yM_dual bM_dual 6 (Option.some FieldType.long) :: AW
abbrev wM_price : List Cond := Cond.code yM_price bM_price 2 (Option.some FieldType.long) :: AW
abbrev wM_factorOf : List Cond := Cond.code yM_factorOf bM_factorOf 6 (Option.some FieldType.long) :: AW
abbrev wM_weight : List Cond := Cond.code yM_weight bM_weight 2 (Option.some FieldType.long) :: AW
abbrev wM_check : List Cond := Cond.code yM_check bM_check 5 (Option.some FieldType.int) :: AW
abbrev wM_steps : List Cond := Cond.code yM_steps bM_steps 1 (Option.some FieldType.int) :: AW
abbrev wM_count : List Cond := Cond.code yM_count bM_count 4 (Option.some FieldType.int) :: AW
end
section
theorem mp_0 : Cond.selects "PlanBounds" ⟨"PlanBounds", "isKept", "(I)Z"⟩ ⟨"PlanBounds", "isKept", "(I)Z"⟩ ∈ AW := List.mem_filter.mpr ⟨List.mem_of_getElem? (i := 0) (by decide +kernel), by decide +kernel⟩
theorem mp_1 : Cond.selects "PlanBounds$Table" ⟨"PlanBounds$Table", "sumOfStarts", "([II)J"⟩ ⟨"PlanBounds$Table", "sumOfStarts", "([II)J"⟩ ∈ AW := List.mem_filter.mpr ⟨List.mem_of_getElem? (i := 1) (by decide +kernel), by decide +kernel⟩
theorem mp_2 : Cond.selects "PlanBounds$Table" ⟨"PlanBounds$Table", "startOf", "(I)J"⟩ ⟨"PlanBounds$Table", "startOf", "(I)J"⟩ ∈ AW := List.mem_filter.mpr ⟨List.mem_of_getElem? (i := 2) (by decide +kernel), by decide +kernel⟩
theorem mp_3 : Cond.selects "PlanBounds$Table" ⟨"PlanBounds$Table", "placeInside", "(I)I"⟩ ⟨"PlanBounds$Table", "placeInside", "(I)I"⟩ ∈ AW := List.mem_filter.mpr ⟨List.mem_of_getElem? (i := 3) (by decide +kernel), by decide +kernel⟩
theorem mp_4 : Cond.selects "PlanBounds$Table" ⟨"PlanBounds$Table", "cell", "(II)J"⟩ ⟨"PlanBounds$Table", "cell", "(II)J"⟩ ∈ AW := List.mem_filter.mpr ⟨List.mem_of_getElem? (i := 4) (by decide +kernel), by decide +kernel⟩
theorem mp_8 : Cond.selects "PlanBounds$Table" ⟨"PlanBounds$Table", "setCell", "(IIJ)V"⟩ ⟨"PlanBounds$Table", "setCell", "(IIJ)V"⟩ ∈ AW := List.mem_filter.mpr ⟨List.mem_of_getElem? (i := 8) (by decide +kernel), by decide +kernel⟩
theorem mp_14 : Cond.selects "PlanBounds$Table" ⟨"PlanBounds$Table", "copyStarts", "()V"⟩ ⟨"PlanBounds$Table", "copyStarts", "()V"⟩ ∈ AW := List.mem_filter.mpr ⟨List.mem_of_getElem? (i := 14) (by decide +kernel), by decide +kernel⟩
theorem mp_15 : Cond.selects "PlanBounds" ⟨"PlanBounds", "linesOf", "(I)I"⟩ ⟨"PlanBounds", "linesOf", "(I)I"⟩ ∈ AW := List.mem_filter.mpr ⟨List.mem_of_getElem? (i := 15) (by decide +kernel), by decide +kernel⟩
theorem mp_16 : Cond.selects "PlanBounds" ⟨"PlanBounds", "variableOf", "(II)I"⟩ ⟨"PlanBounds", "variableOf", "(II)I"⟩ ∈ AW := List.mem_filter.mpr ⟨List.mem_of_getElem? (i := 16) (by decide +kernel), by decide +kernel⟩
theorem mp_17 : Cond.selects "PlanBounds" ⟨"PlanBounds", "signOf", "(II)I"⟩ ⟨"PlanBounds", "signOf", "(II)I"⟩ ∈ AW := List.mem_filter.mpr ⟨List.mem_of_getElem? (i := 17) (by decide +kernel), by decide +kernel⟩
theorem mp_18 : Cond.selects "PlanBounds$Table" ⟨"PlanBounds$Table", "moveCopied", "(IJ)V"⟩ ⟨"PlanBounds$Table", "moveCopied", "(IJ)V"⟩ ∈ AW := List.mem_filter.mpr ⟨List.mem_of_getElem? (i := 18) (by decide +kernel), by decide +kernel⟩
theorem mp_19 : Cond.selects "PlanBounds$Table" ⟨"PlanBounds$Table", "placeOutside", "(I)I"⟩ ⟨"PlanBounds$Table", "placeOutside", "(I)I"⟩ ∈ AW := List.mem_filter.mpr ⟨List.mem_of_getElem? (i := 19) (by decide +kernel), by decide +kernel⟩
theorem mp_20 : Cond.selects "PlanBounds$Table" ⟨"PlanBounds$Table", "takeCopiedStarts", "()Z"⟩ ⟨"PlanBounds$Table", "takeCopiedStarts", "()Z"⟩ ∈ AW := List.mem_filter.mpr ⟨List.mem_of_getElem? (i := 20) (by decide +kernel), by decide +kernel⟩
theorem mp_22 : Cond.selects "PlanBounds" ⟨"PlanBounds", "bringRow", "(I)Z"⟩ ⟨"PlanBounds", "bringRow", "(I)Z"⟩ ∈ AW := List.mem_filter.mpr ⟨List.mem_of_getElem? (i := 22) (by decide +kernel), by decide +kernel⟩
theorem mp_23 : Cond.selects "PlanBounds$Table" ⟨"PlanBounds$Table", "tell", "([IIJ)V"⟩ ⟨"PlanBounds$Table", "tell", "([IIJ)V"⟩ ∈ AW := List.mem_filter.mpr ⟨List.mem_of_getElem? (i := 23) (by decide +kernel), by decide +kernel⟩
theorem mp_24 : Cond.selects "PlanBounds$Table" ⟨"PlanBounds$Table", "tellColumn", "(IJ)V"⟩ ⟨"PlanBounds$Table", "tellColumn", "(IJ)V"⟩ ∈ AW := List.mem_filter.mpr ⟨List.mem_of_getElem? (i := 24) (by decide +kernel), by decide +kernel⟩
theorem mp_25 : Cond.selects "PlanBounds$Table" ⟨"PlanBounds$Table", "toldFits", "()Z"⟩ ⟨"PlanBounds$Table", "toldFits", "()Z"⟩ ∈ AW := List.mem_filter.mpr ⟨List.mem_of_getElem? (i := 25) (by decide +kernel), by decide +kernel⟩
theorem mp_26 : Cond.selects "PlanBounds$Table" ⟨"PlanBounds$Table", "bringTold", "(I)V"⟩ ⟨"PlanBounds$Table", "bringTold", "(I)V"⟩ ∈ AW := List.mem_filter.mpr ⟨List.mem_of_getElem? (i := 26) (by decide +kernel), by decide +kernel⟩
theorem mp_28 : Cond.selects "PlanBounds$Table" ⟨"PlanBounds$Table", "leavingPlace", "()I"⟩ ⟨"PlanBounds$Table", "leavingPlace", "()I"⟩ ∈ AW := List.mem_filter.mpr ⟨List.mem_of_getElem? (i := 28) (by decide +kernel), by decide +kernel⟩
theorem mp_29 : Cond.selects "PlanBounds$Table" ⟨"PlanBounds$Table", "enteringPlace", "(I)I"⟩ ⟨"PlanBounds$Table", "enteringPlace", "(I)I"⟩ ∈ AW := List.mem_filter.mpr ⟨List.mem_of_getElem? (i := 29) (by decide +kernel), by decide +kernel⟩
theorem mp_30 : Cond.selects "PlanBounds$Table" ⟨"PlanBounds$Table", "entersBefore", "(III)Z"⟩ ⟨"PlanBounds$Table", "entersBefore", "(III)Z"⟩ ∈ AW := List.mem_filter.mpr ⟨List.mem_of_getElem? (i := 30) (by decide +kernel), by decide +kernel⟩
theorem mp_31 : Cond.selects "PlanBounds$Table" ⟨"PlanBounds$Table", "stepFits", "(II)Z"⟩ ⟨"PlanBounds$Table", "stepFits", "(II)Z"⟩ ∈ AW := List.mem_filter.mpr ⟨List.mem_of_getElem? (i := 31) (by decide +kernel), by decide +kernel⟩
theorem mp_32 : Cond.selects "PlanBounds$Table" ⟨"PlanBounds$Table", "otherFits", "(III)Z"⟩ ⟨"PlanBounds$Table", "otherFits", "(III)Z"⟩ ∈ AW := List.mem_filter.mpr ⟨List.mem_of_getElem? (i := 32) (by decide +kernel), by decide +kernel⟩
theorem mp_33 : Cond.selects "PlanBounds$Table" ⟨"PlanBounds$Table", "afterStep", "(JJJJ)J"⟩ ⟨"PlanBounds$Table", "afterStep", "(JJJJ)J"⟩ ∈ AW := List.mem_filter.mpr ⟨List.mem_of_getElem? (i := 33) (by decide +kernel), by decide +kernel⟩
theorem mp_34 : Cond.selects "PlanBounds$Table" ⟨"PlanBounds$Table", "change", "(II)V"⟩ ⟨"PlanBounds$Table", "change", "(II)V"⟩ ∈ AW := List.mem_filter.mpr ⟨List.mem_of_getElem? (i := 34) (by decide +kernel), by decide +kernel⟩
theorem mp_35 : Cond.selects "PlanBounds$Table" ⟨"PlanBounds$Table", "changeOther", "(III)V"⟩ ⟨"PlanBounds$Table", "changeOther", "(III)V"⟩ ∈ AW := List.mem_filter.mpr ⟨List.mem_of_getElem? (i := 35) (by decide +kernel), by decide +kernel⟩
theorem mp_36 : Cond.selects "PlanBounds$Table" ⟨"PlanBounds$Table", "changeEntered", "(II)V"⟩ ⟨"PlanBounds$Table", "changeEntered", "(II)V"⟩ ∈ AW := List.mem_filter.mpr ⟨List.mem_of_getElem? (i := 36) (by decide +kernel), by decide +kernel⟩
theorem mp_38 : Cond.selects "PlanBounds$Table" ⟨"PlanBounds$Table", "numberBy", "(II)J"⟩ ⟨"PlanBounds$Table", "numberBy", "(II)J"⟩ ∈ AW := List.mem_filter.mpr ⟨List.mem_of_getElem? (i := 38) (by decide +kernel), by decide +kernel⟩
theorem m_1 : (Jvm.Cond.initialized "PlanBounds") ∈ AW := List.mem_filter.mpr ⟨List.mem_of_getElem? (i := 54) (by decide +kernel), by decide +kernel⟩
theorem m_2 : (Jvm.Cond.initialized "PlanBounds$Table") ∈ AW := List.mem_filter.mpr ⟨List.mem_of_getElem? (i := 55) (by decide +kernel), by decide +kernel⟩
theorem m_3 : (Jvm.Cond.initialized "java/lang/Math") ∈ AW := List.mem_filter.mpr ⟨List.mem_of_getElem? (i := 56) (by decide +kernel), by decide +kernel⟩
theorem m_11 : (Jvm.Cond.initialized "java/util/Arrays") ∈ AW := List.mem_filter.mpr ⟨List.mem_of_getElem? (i := 64) (by decide +kernel), by decide +kernel⟩
theorem m_26 : (Jvm.Cond.fieldLink "PlanBounds$Table" (11 : Nat) "PlanBounds$Table" "cells" "[J") ∈ AW := List.mem_filter.mpr ⟨List.mem_of_getElem? (i := 79) (by decide +kernel), by decide +kernel⟩
theorem m_27 : (Jvm.Cond.fieldLink "PlanBounds$Table" (15 : Nat) "PlanBounds$Table" "inside" "[I") ∈ AW := List.mem_filter.mpr ⟨List.mem_of_getElem? (i := 80) (by decide +kernel), by decide +kernel⟩
theorem m_29 : (Jvm.Cond.fieldLink "PlanBounds$Table" (19 : Nat) "PlanBounds$Table" "outside" "[I") ∈ AW := List.mem_filter.mpr ⟨List.mem_of_getElem? (i := 82) (by decide +kernel), by decide +kernel⟩
theorem m_30 : (Jvm.Cond.fieldLink "PlanBounds$Table" (22 : Nat) "PlanBounds$Table" "told" "[J") ∈ AW := List.mem_filter.mpr ⟨List.mem_of_getElem? (i := 83) (by decide +kernel), by decide +kernel⟩
theorem m_31 : (Jvm.Cond.fieldLink "PlanBounds$Table" (25 : Nat) "PlanBounds$Table" "starts" "[J") ∈ AW := List.mem_filter.mpr ⟨List.mem_of_getElem? (i := 84) (by decide +kernel), by decide +kernel⟩
theorem m_32 : (Jvm.Cond.fieldLink "PlanBounds$Table" (28 : Nat) "PlanBounds$Table" "width" "I") ∈ AW := List.mem_filter.mpr ⟨List.mem_of_getElem? (i := 85) (by decide +kernel), by decide +kernel⟩
theorem m_34 : (Jvm.Cond.fieldLink "PlanBounds$Table" (32 : Nat) "PlanBounds$Table" "height" "I") ∈ AW := List.mem_filter.mpr ⟨List.mem_of_getElem? (i := 87) (by decide +kernel), by decide +kernel⟩
theorem m_36 : (Jvm.Cond.fieldLink "PlanBounds$Table" (35 : Nat) "PlanBounds$Table" "d" "J") ∈ AW := List.mem_filter.mpr ⟨List.mem_of_getElem? (i := 89) (by decide +kernel), by decide +kernel⟩
theorem m_38 : (Jvm.Cond.laysFinal "PlanBounds$Table" "PlanBounds$Table" "cells" "[J") ∈ AW := List.mem_filter.mpr ⟨List.mem_of_getElem? (i := 91) (by decide +kernel), by decide +kernel⟩
theorem m_40 : (Jvm.Cond.laysFinal "PlanBounds$Table" "PlanBounds$Table" "inside" "[I") ∈ AW := List.mem_filter.mpr ⟨List.mem_of_getElem? (i := 93) (by decide +kernel), by decide +kernel⟩
theorem m_42 : (Jvm.Cond.laysFinal "PlanBounds$Table" "PlanBounds$Table" "outside" "[I") ∈ AW := List.mem_filter.mpr ⟨List.mem_of_getElem? (i := 95) (by decide +kernel), by decide +kernel⟩
theorem m_44 : (Jvm.Cond.laysFinal "PlanBounds$Table" "PlanBounds$Table" "told" "[J") ∈ AW := List.mem_filter.mpr ⟨List.mem_of_getElem? (i := 97) (by decide +kernel), by decide +kernel⟩
theorem m_46 : (Jvm.Cond.laysFinal "PlanBounds$Table" "PlanBounds$Table" "starts" "[J") ∈ AW := List.mem_filter.mpr ⟨List.mem_of_getElem? (i := 99) (by decide +kernel), by decide +kernel⟩
theorem m_48 : (Jvm.Cond.lays "PlanBounds$Table" "PlanBounds$Table" "width" "I") ∈ AW := List.mem_filter.mpr ⟨List.mem_of_getElem? (i := 101) (by decide +kernel), by decide +kernel⟩
theorem m_50 : (Jvm.Cond.lays "PlanBounds$Table" "PlanBounds$Table" "height" "I") ∈ AW := List.mem_filter.mpr ⟨List.mem_of_getElem? (i := 103) (by decide +kernel), by decide +kernel⟩
theorem m_52 : (Jvm.Cond.lays "PlanBounds$Table" "PlanBounds$Table" "d" "J") ∈ AW := List.mem_filter.mpr ⟨List.mem_of_getElem? (i := 105) (by decide +kernel), by decide +kernel⟩
theorem m_64 : (Jvm.Cond.fieldLink "PlanBounds" (9 : Nat) "PlanBounds" "kinds" "[I") ∈ AW := List.mem_filter.mpr ⟨List.mem_of_getElem? (i := 117) (by decide +kernel), by decide +kernel⟩
theorem m_65 : (Jvm.Cond.fieldLink "PlanBounds" (13 : Nat) "PlanBounds" "weeksOfRows" "[I") ∈ AW := List.mem_filter.mpr ⟨List.mem_of_getElem? (i := 118) (by decide +kernel), by decide +kernel⟩
theorem m_66 : (Jvm.Cond.fieldLink "PlanBounds" (16 : Nat) "PlanBounds" "rights" "[J") ∈ AW := List.mem_filter.mpr ⟨List.mem_of_getElem? (i := 119) (by decide +kernel), by decide +kernel⟩
theorem m_67 : (Jvm.Cond.fieldLink "PlanBounds" (20 : Nat) "PlanBounds" "factors" "[I") ∈ AW := List.mem_filter.mpr ⟨List.mem_of_getElem? (i := 120) (by decide +kernel), by decide +kernel⟩
theorem m_68 : (Jvm.Cond.fieldLink "PlanBounds" (23 : Nat) "PlanBounds" "firstLines" "[I") ∈ AW := List.mem_filter.mpr ⟨List.mem_of_getElem? (i := 121) (by decide +kernel), by decide +kernel⟩
theorem m_69 : (Jvm.Cond.fieldLink "PlanBounds" (29 : Nat) "PlanBounds" "table" "LPlanBounds$Table;") ∈ AW := List.mem_filter.mpr ⟨List.mem_of_getElem? (i := 122) (by decide +kernel), by decide +kernel⟩
theorem m_70 : (Jvm.Cond.fieldLink "PlanBounds" (33 : Nat) "PlanBounds" "rows" "I") ∈ AW := List.mem_filter.mpr ⟨List.mem_of_getElem? (i := 123) (by decide +kernel), by decide +kernel⟩
theorem m_71 : (Jvm.Cond.fieldLink "PlanBounds" (37 : Nat) "PlanBounds" "rowsInTable" "I") ∈ AW := List.mem_filter.mpr ⟨List.mem_of_getElem? (i := 124) (by decide +kernel), by decide +kernel⟩
theorem m_72 : (Jvm.Cond.fieldLink "PlanBounds" (40 : Nat) "PlanBounds" "stepsDone" "I") ∈ AW := List.mem_filter.mpr ⟨List.mem_of_getElem? (i := 125) (by decide +kernel), by decide +kernel⟩
theorem m_75 : (Jvm.Cond.laysFinal "PlanBounds" "PlanBounds" "weeks" "I") ∈ AW := List.mem_filter.mpr ⟨List.mem_of_getElem? (i := 128) (by decide +kernel), by decide +kernel⟩
theorem m_77 : (Jvm.Cond.laysFinal "PlanBounds" "PlanBounds" "kinds" "[I") ∈ AW := List.mem_filter.mpr ⟨List.mem_of_getElem? (i := 130) (by decide +kernel), by decide +kernel⟩
theorem m_79 : (Jvm.Cond.laysFinal "PlanBounds" "PlanBounds" "weeksOfRows" "[I") ∈ AW := List.mem_filter.mpr ⟨List.mem_of_getElem? (i := 132) (by decide +kernel), by decide +kernel⟩
theorem m_81 : (Jvm.Cond.laysFinal "PlanBounds" "PlanBounds" "rights" "[J") ∈ AW := List.mem_filter.mpr ⟨List.mem_of_getElem? (i := 134) (by decide +kernel), by decide +kernel⟩
theorem m_83 : (Jvm.Cond.laysFinal "PlanBounds" "PlanBounds" "factors" "[I") ∈ AW := List.mem_filter.mpr ⟨List.mem_of_getElem? (i := 136) (by decide +kernel), by decide +kernel⟩
theorem m_85 : (Jvm.Cond.laysFinal "PlanBounds" "PlanBounds" "firstLines" "[I") ∈ AW := List.mem_filter.mpr ⟨List.mem_of_getElem? (i := 138) (by decide +kernel), by decide +kernel⟩
theorem m_87 : (Jvm.Cond.laysFinal "PlanBounds" "PlanBounds" "table" "LPlanBounds$Table;") ∈ AW := List.mem_filter.mpr ⟨List.mem_of_getElem? (i := 140) (by decide +kernel), by decide +kernel⟩
theorem m_89 : (Jvm.Cond.lays "PlanBounds" "PlanBounds" "rows" "I") ∈ AW := List.mem_filter.mpr ⟨List.mem_of_getElem? (i := 142) (by decide +kernel), by decide +kernel⟩
theorem m_91 : (Jvm.Cond.lays "PlanBounds" "PlanBounds" "rowsInTable" "I") ∈ AW := List.mem_filter.mpr ⟨List.mem_of_getElem? (i := 144) (by decide +kernel), by decide +kernel⟩
theorem m_93 : (Jvm.Cond.lays "PlanBounds" "PlanBounds" "stepsDone" "I") ∈ AW := List.mem_filter.mpr ⟨List.mem_of_getElem? (i := 146) (by decide +kernel), by decide +kernel⟩
theorem m_95 : (Jvm.Cond.lays "PlanBounds" "PlanBounds" "hasRun" "Z") ∈ AW := List.mem_filter.mpr ⟨List.mem_of_getElem? (i := 148) (by decide +kernel), by decide +kernel⟩
theorem m_97 : (Jvm.Cond.lays "PlanBounds" "PlanBounds" "latest" "I") ∈ AW := List.mem_filter.mpr ⟨List.mem_of_getElem? (i := 150) (by decide +kernel), by decide +kernel⟩
theorem m_104 : (Jvm.Cond.methodLink "PlanBounds" (168 : Nat) ({ cls := "PlanBounds", name := "isKept", desc := "(I)Z" } : Jvm.MethodName)) ∈ AW := List.mem_filter.mpr ⟨List.mem_of_getElem? (i := 157) (by decide +kernel), by decide +kernel⟩
theorem m_106 : (Jvm.Cond.instanceMethod ({ cls := "PlanBounds", name := "isKept", desc := "(I)Z" } : Jvm.MethodName)) ∈ AW := List.mem_filter.mpr ⟨List.mem_of_getElem? (i := 159) (by decide +kernel), by decide +kernel⟩
theorem m_107 : (Jvm.Cond.code ({ cls := "PlanBounds", name := "isKept", desc := "(I)Z" } : Jvm.MethodName) prog_1_method_23_code (4 : Nat) (Option.some Jvm.ClassFile.FieldType.boolean)) ∈ AW := List.mem_filter.mpr ⟨List.mem_of_getElem? (i := 160) (by decide +kernel), by decide +kernel⟩
theorem m_108 : (Jvm.Cond.methodLink "PlanBounds" (109 : Nat) ({ cls := "PlanBounds", name := "factorPlace", desc := "(II)I" } : Jvm.MethodName)) ∈ AW := List.mem_filter.mpr ⟨List.mem_of_getElem? (i := 161) (by decide +kernel), by decide +kernel⟩
theorem m_109 : (Jvm.Cond.static ({ cls := "PlanBounds", name := "factorPlace", desc := "(II)I" } : Jvm.MethodName)) ∈ AW := List.mem_filter.mpr ⟨List.mem_of_getElem? (i := 162) (by decide +kernel), by decide +kernel⟩
theorem m_110 : (Jvm.Cond.code ({ cls := "PlanBounds", name := "factorPlace", desc := "(II)I" } : Jvm.MethodName) prog_1_method_21_code (2 : Nat) (Option.some Jvm.ClassFile.FieldType.int)) ∈ AW := List.mem_filter.mpr ⟨List.mem_of_getElem? (i := 163) (by decide +kernel), by decide +kernel⟩
theorem m_113 : (Jvm.Cond.instanceMethod ({ cls := "PlanBounds$Table", name := "sumOfStarts", desc := "([II)J" } : Jvm.MethodName)) ∈ AW := List.mem_filter.mpr ⟨List.mem_of_getElem? (i := 166) (by decide +kernel), by decide +kernel⟩
theorem m_114 : (Jvm.Cond.code ({ cls := "PlanBounds$Table", name := "sumOfStarts", desc := "([II)J" } : Jvm.MethodName) prog_2_method_10_code (6 : Nat) (Option.some Jvm.ClassFile.FieldType.long)) ∈ AW := List.mem_filter.mpr ⟨List.mem_of_getElem? (i := 167) (by decide +kernel), by decide +kernel⟩
theorem m_115 : (Jvm.Cond.methodLink "PlanBounds$Table" (58 : Nat) ({ cls := "PlanBounds$Table", name := "startOf", desc := "(I)J" } : Jvm.MethodName)) ∈ AW := List.mem_filter.mpr ⟨List.mem_of_getElem? (i := 168) (by decide +kernel), by decide +kernel⟩
theorem m_117 : (Jvm.Cond.instanceMethod ({ cls := "PlanBounds$Table", name := "startOf", desc := "(I)J" } : Jvm.MethodName)) ∈ AW := List.mem_filter.mpr ⟨List.mem_of_getElem? (i := 170) (by decide +kernel), by decide +kernel⟩
theorem m_118 : (Jvm.Cond.code ({ cls := "PlanBounds$Table", name := "startOf", desc := "(I)J" } : Jvm.MethodName) prog_2_method_8_code (3 : Nat) (Option.some Jvm.ClassFile.FieldType.long)) ∈ AW := List.mem_filter.mpr ⟨List.mem_of_getElem? (i := 171) (by decide +kernel), by decide +kernel⟩
theorem m_119 : (Jvm.Cond.methodLink "PlanBounds$Table" (47 : Nat) ({ cls := "PlanBounds$Table", name := "placeInside", desc := "(I)I" } : Jvm.MethodName)) ∈ AW := List.mem_filter.mpr ⟨List.mem_of_getElem? (i := 172) (by decide +kernel), by decide +kernel⟩
theorem m_121 : (Jvm.Cond.instanceMethod ({ cls := "PlanBounds$Table", name := "placeInside", desc := "(I)I" } : Jvm.MethodName)) ∈ AW := List.mem_filter.mpr ⟨List.mem_of_getElem? (i := 174) (by decide +kernel), by decide +kernel⟩
theorem m_122 : (Jvm.Cond.code ({ cls := "PlanBounds$Table", name := "placeInside", desc := "(I)I" } : Jvm.MethodName) prog_2_method_6_code (3 : Nat) (Option.some Jvm.ClassFile.FieldType.int)) ∈ AW := List.mem_filter.mpr ⟨List.mem_of_getElem? (i := 175) (by decide +kernel), by decide +kernel⟩
theorem m_123 : (Jvm.Cond.methodLink "PlanBounds$Table" (51 : Nat) ({ cls := "PlanBounds$Table", name := "cell", desc := "(II)J" } : Jvm.MethodName)) ∈ AW := List.mem_filter.mpr ⟨List.mem_of_getElem? (i := 176) (by decide +kernel), by decide +kernel⟩
theorem m_125 : (Jvm.Cond.instanceMethod ({ cls := "PlanBounds$Table", name := "cell", desc := "(II)J" } : Jvm.MethodName)) ∈ AW := List.mem_filter.mpr ⟨List.mem_of_getElem? (i := 178) (by decide +kernel), by decide +kernel⟩
theorem m_126 : (Jvm.Cond.code ({ cls := "PlanBounds$Table", name := "cell", desc := "(II)J" } : Jvm.MethodName) prog_2_method_2_code (3 : Nat) (Option.some Jvm.ClassFile.FieldType.long)) ∈ AW := List.mem_filter.mpr ⟨List.mem_of_getElem? (i := 179) (by decide +kernel), by decide +kernel⟩
theorem m_240 : (Jvm.Cond.methodLink "PlanBounds$Table" (43 : Nat) ({ cls := "PlanBounds$Table", name := "setCell", desc := "(IIJ)V" } : Jvm.MethodName)) ∈ AW := List.mem_filter.mpr ⟨List.mem_of_getElem? (i := 293) (by decide +kernel), by decide +kernel⟩
theorem m_242 : (Jvm.Cond.instanceMethod ({ cls := "PlanBounds$Table", name := "setCell", desc := "(IIJ)V" } : Jvm.MethodName)) ∈ AW := List.mem_filter.mpr ⟨List.mem_of_getElem? (i := 295) (by decide +kernel), by decide +kernel⟩
theorem m_243 : (Jvm.Cond.code ({ cls := "PlanBounds$Table", name := "setCell", desc := "(IIJ)V" } : Jvm.MethodName) prog_2_method_3_code (5 : Nat) (Option.none : Option Jvm.ClassFile.FieldType)) ∈ AW := List.mem_filter.mpr ⟨List.mem_of_getElem? (i := 296) (by decide +kernel), by decide +kernel⟩
theorem m_324 : (Jvm.Cond.instanceMethod ({ cls := "PlanBounds$Table", name := "copyStarts", desc := "()V" } : Jvm.MethodName)) ∈ AW := List.mem_filter.mpr ⟨List.mem_of_getElem? (i := 377) (by decide +kernel), by decide +kernel⟩
theorem m_325 : (Jvm.Cond.code ({ cls := "PlanBounds$Table", name := "copyStarts", desc := "()V" } : Jvm.MethodName) prog_2_method_24_code (2 : Nat) (Option.none : Option Jvm.ClassFile.FieldType)) ∈ AW := List.mem_filter.mpr ⟨List.mem_of_getElem? (i := 378) (by decide +kernel), by decide +kernel⟩
theorem m_326 : (Jvm.Cond.methodLink "PlanBounds" (199 : Nat) ({ cls := "PlanBounds", name := "linesOf", desc := "(I)I" } : Jvm.MethodName)) ∈ AW := List.mem_filter.mpr ⟨List.mem_of_getElem? (i := 379) (by decide +kernel), by decide +kernel⟩
theorem m_328 : (Jvm.Cond.instanceMethod ({ cls := "PlanBounds", name := "linesOf", desc := "(I)I" } : Jvm.MethodName)) ∈ AW := List.mem_filter.mpr ⟨List.mem_of_getElem? (i := 381) (by decide +kernel), by decide +kernel⟩
theorem m_329 : (Jvm.Cond.code ({ cls := "PlanBounds", name := "linesOf", desc := "(I)I" } : Jvm.MethodName) prog_1_method_24_code (2 : Nat) (Option.some Jvm.ClassFile.FieldType.int)) ∈ AW := List.mem_filter.mpr ⟨List.mem_of_getElem? (i := 382) (by decide +kernel), by decide +kernel⟩
theorem m_330 : (Jvm.Cond.methodLink "PlanBounds" (153 : Nat) ({ cls := "PlanBounds", name := "variableOf", desc := "(II)I" } : Jvm.MethodName)) ∈ AW := List.mem_filter.mpr ⟨List.mem_of_getElem? (i := 383) (by decide +kernel), by decide +kernel⟩
theorem m_332 : (Jvm.Cond.instanceMethod ({ cls := "PlanBounds", name := "variableOf", desc := "(II)I" } : Jvm.MethodName)) ∈ AW := List.mem_filter.mpr ⟨List.mem_of_getElem? (i := 385) (by decide +kernel), by decide +kernel⟩
theorem m_333 : (Jvm.Cond.code ({ cls := "PlanBounds", name := "variableOf", desc := "(II)I" } : Jvm.MethodName) prog_1_method_27_code (3 : Nat) (Option.some Jvm.ClassFile.FieldType.int)) ∈ AW := List.mem_filter.mpr ⟨List.mem_of_getElem? (i := 386) (by decide +kernel), by decide +kernel⟩
theorem m_334 : (Jvm.Cond.methodLink "PlanBounds" (150 : Nat) ({ cls := "PlanBounds", name := "signOf", desc := "(II)I" } : Jvm.MethodName)) ∈ AW := List.mem_filter.mpr ⟨List.mem_of_getElem? (i := 387) (by decide +kernel), by decide +kernel⟩
theorem m_336 : (Jvm.Cond.instanceMethod ({ cls := "PlanBounds", name := "signOf", desc := "(II)I" } : Jvm.MethodName)) ∈ AW := List.mem_filter.mpr ⟨List.mem_of_getElem? (i := 389) (by decide +kernel), by decide +kernel⟩
theorem m_337 : (Jvm.Cond.code ({ cls := "PlanBounds", name := "signOf", desc := "(II)I" } : Jvm.MethodName) prog_1_method_26_code (3 : Nat) (Option.some Jvm.ClassFile.FieldType.int)) ∈ AW := List.mem_filter.mpr ⟨List.mem_of_getElem? (i := 390) (by decide +kernel), by decide +kernel⟩
theorem m_340 : (Jvm.Cond.instanceMethod ({ cls := "PlanBounds$Table", name := "moveCopied", desc := "(IJ)V" } : Jvm.MethodName)) ∈ AW := List.mem_filter.mpr ⟨List.mem_of_getElem? (i := 393) (by decide +kernel), by decide +kernel⟩
theorem m_341 : (Jvm.Cond.code ({ cls := "PlanBounds$Table", name := "moveCopied", desc := "(IJ)V" } : Jvm.MethodName) prog_2_method_25_code (7 : Nat) (Option.none : Option Jvm.ClassFile.FieldType)) ∈ AW := List.mem_filter.mpr ⟨List.mem_of_getElem? (i := 394) (by decide +kernel), by decide +kernel⟩
theorem m_342 : (Jvm.Cond.methodLink "PlanBounds$Table" (55 : Nat) ({ cls := "PlanBounds$Table", name := "placeOutside", desc := "(I)I" } : Jvm.MethodName)) ∈ AW := List.mem_filter.mpr ⟨List.mem_of_getElem? (i := 395) (by decide +kernel), by decide +kernel⟩
theorem m_344 : (Jvm.Cond.instanceMethod ({ cls := "PlanBounds$Table", name := "placeOutside", desc := "(I)I" } : Jvm.MethodName)) ∈ AW := List.mem_filter.mpr ⟨List.mem_of_getElem? (i := 397) (by decide +kernel), by decide +kernel⟩
theorem m_345 : (Jvm.Cond.code ({ cls := "PlanBounds$Table", name := "placeOutside", desc := "(I)I" } : Jvm.MethodName) prog_2_method_7_code (3 : Nat) (Option.some Jvm.ClassFile.FieldType.int)) ∈ AW := List.mem_filter.mpr ⟨List.mem_of_getElem? (i := 398) (by decide +kernel), by decide +kernel⟩
theorem m_348 : (Jvm.Cond.instanceMethod ({ cls := "PlanBounds$Table", name := "takeCopiedStarts", desc := "()Z" } : Jvm.MethodName)) ∈ AW := List.mem_filter.mpr ⟨List.mem_of_getElem? (i := 401) (by decide +kernel), by decide +kernel⟩
theorem m_349 : (Jvm.Cond.code ({ cls := "PlanBounds$Table", name := "takeCopiedStarts", desc := "()Z" } : Jvm.MethodName) prog_2_method_26_code (2 : Nat) (Option.some Jvm.ClassFile.FieldType.boolean)) ∈ AW := List.mem_filter.mpr ⟨List.mem_of_getElem? (i := 402) (by decide +kernel), by decide +kernel⟩
theorem m_350 : (Jvm.Cond.methodLink "PlanBounds$Table" (72 : Nat) ({ cls := "PlanBounds$Table", name := "fits", desc := "(J)Z" } : Jvm.MethodName)) ∈ AW := List.mem_filter.mpr ⟨List.mem_of_getElem? (i := 403) (by decide +kernel), by decide +kernel⟩
theorem m_351 : (Jvm.Cond.static ({ cls := "PlanBounds$Table", name := "fits", desc := "(J)Z" } : Jvm.MethodName)) ∈ AW := List.mem_filter.mpr ⟨List.mem_of_getElem? (i := 404) (by decide +kernel), by decide +kernel⟩
theorem m_352 : (Jvm.Cond.code ({ cls := "PlanBounds$Table", name := "fits", desc := "(J)Z" } : Jvm.MethodName) prog_2_method_4_code (2 : Nat) (Option.some Jvm.ClassFile.FieldType.boolean)) ∈ AW := List.mem_filter.mpr ⟨List.mem_of_getElem? (i := 405) (by decide +kernel), by decide +kernel⟩
theorem m_353 : (Jvm.Cond.constantLong "PlanBounds$Table" (39 : Nat) (-1000000000 : Int64)) ∈ AW := List.mem_filter.mpr ⟨List.mem_of_getElem? (i := 406) (by decide +kernel), by decide +kernel⟩
theorem m_354 : (Jvm.Cond.constantLong "PlanBounds$Table" (41 : Nat) (1000000000 : Int64)) ∈ AW := List.mem_filter.mpr ⟨List.mem_of_getElem? (i := 407) (by decide +kernel), by decide +kernel⟩
theorem m_367 : (Jvm.Cond.methodLink "PlanBounds" (202 : Nat) ({ cls := "PlanBounds", name := "bringRow", desc := "(I)Z" } : Jvm.MethodName)) ∈ AW := List.mem_filter.mpr ⟨List.mem_of_getElem? (i := 420) (by decide +kernel), by decide +kernel⟩
theorem m_369 : (Jvm.Cond.instanceMethod ({ cls := "PlanBounds", name := "bringRow", desc := "(I)Z" } : Jvm.MethodName)) ∈ AW := List.mem_filter.mpr ⟨List.mem_of_getElem? (i := 422) (by decide +kernel), by decide +kernel⟩
theorem m_370 : (Jvm.Cond.code ({ cls := "PlanBounds", name := "bringRow", desc := "(I)Z" } : Jvm.MethodName) prog_1_method_29_code (3 : Nat) (Option.some Jvm.ClassFile.FieldType.boolean)) ∈ AW := List.mem_filter.mpr ⟨List.mem_of_getElem? (i := 423) (by decide +kernel), by decide +kernel⟩
theorem m_373 : (Jvm.Cond.instanceMethod ({ cls := "PlanBounds$Table", name := "tell", desc := "([IIJ)V" } : Jvm.MethodName)) ∈ AW := List.mem_filter.mpr ⟨List.mem_of_getElem? (i := 426) (by decide +kernel), by decide +kernel⟩
theorem m_374 : (Jvm.Cond.code ({ cls := "PlanBounds$Table", name := "tell", desc := "([IIJ)V" } : Jvm.MethodName) prog_2_method_11_code (6 : Nat) (Option.none : Option Jvm.ClassFile.FieldType)) ∈ AW := List.mem_filter.mpr ⟨List.mem_of_getElem? (i := 427) (by decide +kernel), by decide +kernel⟩
theorem m_375 : (Jvm.Cond.methodLink "PlanBounds$Table" (62 : Nat) ({ cls := "java/util/Arrays", name := "fill", desc := "([JJ)V" } : Jvm.MethodName)) ∈ AW := List.mem_filter.mpr ⟨List.mem_of_getElem? (i := 428) (by decide +kernel), by decide +kernel⟩
theorem m_376 : (Jvm.Cond.static ({ cls := "java/util/Arrays", name := "fill", desc := "([JJ)V" } : Jvm.MethodName)) ∈ AW := List.mem_filter.mpr ⟨List.mem_of_getElem? (i := 429) (by decide +kernel), by decide +kernel⟩
theorem m_377 : (Jvm.Cond.code ({ cls := "java/util/Arrays", name := "fill", desc := "([JJ)V" } : Jvm.MethodName) prog_13_method_101_code (5 : Nat) (Option.none : Option Jvm.ClassFile.FieldType)) ∈ AW := List.mem_filter.mpr ⟨List.mem_of_getElem? (i := 430) (by decide +kernel), by decide +kernel⟩
theorem m_378 : (Jvm.Cond.methodLink "PlanBounds$Table" (68 : Nat) ({ cls := "PlanBounds$Table", name := "tellColumn", desc := "(IJ)V" } : Jvm.MethodName)) ∈ AW := List.mem_filter.mpr ⟨List.mem_of_getElem? (i := 431) (by decide +kernel), by decide +kernel⟩
theorem m_380 : (Jvm.Cond.instanceMethod ({ cls := "PlanBounds$Table", name := "tellColumn", desc := "(IJ)V" } : Jvm.MethodName)) ∈ AW := List.mem_filter.mpr ⟨List.mem_of_getElem? (i := 433) (by decide +kernel), by decide +kernel⟩
theorem m_381 : (Jvm.Cond.code ({ cls := "PlanBounds$Table", name := "tellColumn", desc := "(IJ)V" } : Jvm.MethodName) prog_2_method_12_code (7 : Nat) (Option.none : Option Jvm.ClassFile.FieldType)) ∈ AW := List.mem_filter.mpr ⟨List.mem_of_getElem? (i := 434) (by decide +kernel), by decide +kernel⟩
theorem m_384 : (Jvm.Cond.instanceMethod ({ cls := "PlanBounds$Table", name := "toldFits", desc := "()Z" } : Jvm.MethodName)) ∈ AW := List.mem_filter.mpr ⟨List.mem_of_getElem? (i := 437) (by decide +kernel), by decide +kernel⟩
theorem m_385 : (Jvm.Cond.code ({ cls := "PlanBounds$Table", name := "toldFits", desc := "()Z" } : Jvm.MethodName) prog_2_method_13_code (2 : Nat) (Option.some Jvm.ClassFile.FieldType.boolean)) ∈ AW := List.mem_filter.mpr ⟨List.mem_of_getElem? (i := 438) (by decide +kernel), by decide +kernel⟩
theorem m_388 : (Jvm.Cond.instanceMethod ({ cls := "PlanBounds$Table", name := "bringTold", desc := "(I)V" } : Jvm.MethodName)) ∈ AW := List.mem_filter.mpr ⟨List.mem_of_getElem? (i := 441) (by decide +kernel), by decide +kernel⟩
theorem m_389 : (Jvm.Cond.code ({ cls := "PlanBounds$Table", name := "bringTold", desc := "(I)V" } : Jvm.MethodName) prog_2_method_14_code (4 : Nat) (Option.none : Option Jvm.ClassFile.FieldType)) ∈ AW := List.mem_filter.mpr ⟨List.mem_of_getElem? (i := 442) (by decide +kernel), by decide +kernel⟩
theorem m_396 : (Jvm.Cond.instanceMethod ({ cls := "PlanBounds$Table", name := "leavingPlace", desc := "()I" } : Jvm.MethodName)) ∈ AW := List.mem_filter.mpr ⟨List.mem_of_getElem? (i := 449) (by decide +kernel), by decide +kernel⟩
theorem m_397 : (Jvm.Cond.code ({ cls := "PlanBounds$Table", name := "leavingPlace", desc := "()I" } : Jvm.MethodName) prog_2_method_15_code (3 : Nat) (Option.some Jvm.ClassFile.FieldType.int)) ∈ AW := List.mem_filter.mpr ⟨List.mem_of_getElem? (i := 450) (by decide +kernel), by decide +kernel⟩
theorem m_400 : (Jvm.Cond.instanceMethod ({ cls := "PlanBounds$Table", name := "enteringPlace", desc := "(I)I" } : Jvm.MethodName)) ∈ AW := List.mem_filter.mpr ⟨List.mem_of_getElem? (i := 453) (by decide +kernel), by decide +kernel⟩
theorem m_401 : (Jvm.Cond.code ({ cls := "PlanBounds$Table", name := "enteringPlace", desc := "(I)I" } : Jvm.MethodName) prog_2_method_16_code (4 : Nat) (Option.some Jvm.ClassFile.FieldType.int)) ∈ AW := List.mem_filter.mpr ⟨List.mem_of_getElem? (i := 454) (by decide +kernel), by decide +kernel⟩
theorem m_402 : (Jvm.Cond.methodLink "PlanBounds$Table" (76 : Nat) ({ cls := "PlanBounds$Table", name := "entersBefore", desc := "(III)Z" } : Jvm.MethodName)) ∈ AW := List.mem_filter.mpr ⟨List.mem_of_getElem? (i := 455) (by decide +kernel), by decide +kernel⟩
theorem m_404 : (Jvm.Cond.instanceMethod ({ cls := "PlanBounds$Table", name := "entersBefore", desc := "(III)Z" } : Jvm.MethodName)) ∈ AW := List.mem_filter.mpr ⟨List.mem_of_getElem? (i := 457) (by decide +kernel), by decide +kernel⟩
theorem m_405 : (Jvm.Cond.code ({ cls := "PlanBounds$Table", name := "entersBefore", desc := "(III)Z" } : Jvm.MethodName) prog_2_method_17_code (8 : Nat) (Option.some Jvm.ClassFile.FieldType.boolean)) ∈ AW := List.mem_filter.mpr ⟨List.mem_of_getElem? (i := 458) (by decide +kernel), by decide +kernel⟩
theorem m_408 : (Jvm.Cond.instanceMethod ({ cls := "PlanBounds$Table", name := "stepFits", desc := "(II)Z" } : Jvm.MethodName)) ∈ AW := List.mem_filter.mpr ⟨List.mem_of_getElem? (i := 461) (by decide +kernel), by decide +kernel⟩
theorem m_409 : (Jvm.Cond.code ({ cls := "PlanBounds$Table", name := "stepFits", desc := "(II)Z" } : Jvm.MethodName) prog_2_method_19_code (4 : Nat) (Option.some Jvm.ClassFile.FieldType.boolean)) ∈ AW := List.mem_filter.mpr ⟨List.mem_of_getElem? (i := 462) (by decide +kernel), by decide +kernel⟩
theorem m_410 : (Jvm.Cond.methodLink "PlanBounds$Table" (80 : Nat) ({ cls := "PlanBounds$Table", name := "otherFits", desc := "(III)Z" } : Jvm.MethodName)) ∈ AW := List.mem_filter.mpr ⟨List.mem_of_getElem? (i := 463) (by decide +kernel), by decide +kernel⟩
theorem m_412 : (Jvm.Cond.instanceMethod ({ cls := "PlanBounds$Table", name := "otherFits", desc := "(III)Z" } : Jvm.MethodName)) ∈ AW := List.mem_filter.mpr ⟨List.mem_of_getElem? (i := 465) (by decide +kernel), by decide +kernel⟩
theorem m_413 : (Jvm.Cond.code ({ cls := "PlanBounds$Table", name := "otherFits", desc := "(III)Z" } : Jvm.MethodName) prog_2_method_20_code (9 : Nat) (Option.some Jvm.ClassFile.FieldType.boolean)) ∈ AW := List.mem_filter.mpr ⟨List.mem_of_getElem? (i := 466) (by decide +kernel), by decide +kernel⟩
theorem m_414 : (Jvm.Cond.methodLink "PlanBounds$Table" (83 : Nat) ({ cls := "PlanBounds$Table", name := "afterStep", desc := "(JJJJ)J" } : Jvm.MethodName)) ∈ AW := List.mem_filter.mpr ⟨List.mem_of_getElem? (i := 467) (by decide +kernel), by decide +kernel⟩
theorem m_416 : (Jvm.Cond.instanceMethod ({ cls := "PlanBounds$Table", name := "afterStep", desc := "(JJJJ)J" } : Jvm.MethodName)) ∈ AW := List.mem_filter.mpr ⟨List.mem_of_getElem? (i := 469) (by decide +kernel), by decide +kernel⟩
theorem m_417 : (Jvm.Cond.code ({ cls := "PlanBounds$Table", name := "afterStep", desc := "(JJJJ)J" } : Jvm.MethodName) prog_2_method_18_code (9 : Nat) (Option.some Jvm.ClassFile.FieldType.long)) ∈ AW := List.mem_filter.mpr ⟨List.mem_of_getElem? (i := 470) (by decide +kernel), by decide +kernel⟩
theorem m_420 : (Jvm.Cond.instanceMethod ({ cls := "PlanBounds$Table", name := "change", desc := "(II)V" } : Jvm.MethodName)) ∈ AW := List.mem_filter.mpr ⟨List.mem_of_getElem? (i := 473) (by decide +kernel), by decide +kernel⟩
theorem m_421 : (Jvm.Cond.code ({ cls := "PlanBounds$Table", name := "change", desc := "(II)V" } : Jvm.MethodName) prog_2_method_21_code (6 : Nat) (Option.none : Option Jvm.ClassFile.FieldType)) ∈ AW := List.mem_filter.mpr ⟨List.mem_of_getElem? (i := 474) (by decide +kernel), by decide +kernel⟩
theorem m_422 : (Jvm.Cond.methodLink "PlanBounds$Table" (87 : Nat) ({ cls := "PlanBounds$Table", name := "changeOther", desc := "(III)V" } : Jvm.MethodName)) ∈ AW := List.mem_filter.mpr ⟨List.mem_of_getElem? (i := 475) (by decide +kernel), by decide +kernel⟩
theorem m_424 : (Jvm.Cond.instanceMethod ({ cls := "PlanBounds$Table", name := "changeOther", desc := "(III)V" } : Jvm.MethodName)) ∈ AW := List.mem_filter.mpr ⟨List.mem_of_getElem? (i := 477) (by decide +kernel), by decide +kernel⟩
theorem m_425 : (Jvm.Cond.code ({ cls := "PlanBounds$Table", name := "changeOther", desc := "(III)V" } : Jvm.MethodName) prog_2_method_22_code (9 : Nat) (Option.none : Option Jvm.ClassFile.FieldType)) ∈ AW := List.mem_filter.mpr ⟨List.mem_of_getElem? (i := 478) (by decide +kernel), by decide +kernel⟩
theorem m_426 : (Jvm.Cond.methodLink "PlanBounds$Table" (91 : Nat) ({ cls := "PlanBounds$Table", name := "changeEntered", desc := "(II)V" } : Jvm.MethodName)) ∈ AW := List.mem_filter.mpr ⟨List.mem_of_getElem? (i := 479) (by decide +kernel), by decide +kernel⟩
theorem m_428 : (Jvm.Cond.instanceMethod ({ cls := "PlanBounds$Table", name := "changeEntered", desc := "(II)V" } : Jvm.MethodName)) ∈ AW := List.mem_filter.mpr ⟨List.mem_of_getElem? (i := 481) (by decide +kernel), by decide +kernel⟩
theorem m_429 : (Jvm.Cond.code ({ cls := "PlanBounds$Table", name := "changeEntered", desc := "(II)V" } : Jvm.MethodName) prog_2_method_23_code (4 : Nat) (Option.none : Option Jvm.ClassFile.FieldType)) ∈ AW := List.mem_filter.mpr ⟨List.mem_of_getElem? (i := 482) (by decide +kernel), by decide +kernel⟩
theorem m_445 : (Jvm.Cond.methodLink "PlanBounds" (239 : Nat) ({ cls := "java/lang/Math", name := "abs", desc := "(J)J" } : Jvm.MethodName)) ∈ AW := List.mem_filter.mpr ⟨List.mem_of_getElem? (i := 498) (by decide +kernel), by decide +kernel⟩
theorem m_446 : (Jvm.Cond.static ({ cls := "java/lang/Math", name := "abs", desc := "(J)J" } : Jvm.MethodName)) ∈ AW := List.mem_filter.mpr ⟨List.mem_of_getElem? (i := 499) (by decide +kernel), by decide +kernel⟩
theorem m_447 : (Jvm.Cond.code ({ cls := "java/lang/Math", name := "abs", desc := "(J)J" } : Jvm.MethodName) prog_9_method_61_code (2 : Nat) (Option.some Jvm.ClassFile.FieldType.long)) ∈ AW := List.mem_filter.mpr ⟨List.mem_of_getElem? (i := 500) (by decide +kernel), by decide +kernel⟩
theorem m_448 : (Jvm.Cond.methodLink "PlanBounds" (243 : Nat) ({ cls := "PlanBounds", name := "greatestCommon", desc := "(JJ)J" } : Jvm.MethodName)) ∈ AW := List.mem_filter.mpr ⟨List.mem_of_getElem? (i := 501) (by decide +kernel), by decide +kernel⟩
theorem m_449 : (Jvm.Cond.static ({ cls := "PlanBounds", name := "greatestCommon", desc := "(JJ)J" } : Jvm.MethodName)) ∈ AW := List.mem_filter.mpr ⟨List.mem_of_getElem? (i := 502) (by decide +kernel), by decide +kernel⟩
theorem m_450 : (Jvm.Cond.code ({ cls := "PlanBounds", name := "greatestCommon", desc := "(JJ)J" } : Jvm.MethodName) prog_1_method_34_code (7 : Nat) (Option.some Jvm.ClassFile.FieldType.long)) ∈ AW := List.mem_filter.mpr ⟨List.mem_of_getElem? (i := 503) (by decide +kernel), by decide +kernel⟩
theorem m_472 : (Jvm.Cond.instanceMethod ({ cls := "PlanBounds$Table", name := "numberBy", desc := "(II)J" } : Jvm.MethodName)) ∈ AW := List.mem_filter.mpr ⟨List.mem_of_getElem? (i := 525) (by decide +kernel), by decide +kernel⟩
theorem m_473 : (Jvm.Cond.code ({ cls := "PlanBounds$Table", name := "numberBy", desc := "(II)J" } : Jvm.MethodName) prog_2_method_9_code (4 : Nat) (Option.some Jvm.ClassFile.FieldType.long)) ∈ AW := List.mem_filter.mpr ⟨List.mem_of_getElem? (i := 526) (by decide +kernel), by decide +kernel⟩
theorem m_511 : (Jvm.Cond.lays "PlanBoundsModel" "PlanBoundsModel" "thrown" "I") ∈ AW := List.mem_filter.mpr ⟨List.mem_of_getElem? (i := 564) (by decide +kernel), by decide +kernel⟩
theorem m_513 : (Jvm.Cond.laysFinal "PlanBoundsModel" "PlanBoundsModel" "weeks" "I") ∈ AW := List.mem_filter.mpr ⟨List.mem_of_getElem? (i := 566) (by decide +kernel), by decide +kernel⟩
theorem m_515 : (Jvm.Cond.lays "PlanBoundsModel" "PlanBoundsModel" "columns" "I") ∈ AW := List.mem_filter.mpr ⟨List.mem_of_getElem? (i := 568) (by decide +kernel), by decide +kernel⟩
theorem m_517 : (Jvm.Cond.laysFinal "PlanBoundsModel" "PlanBoundsModel" "costs" "[J") ∈ AW := List.mem_filter.mpr ⟨List.mem_of_getElem? (i := 570) (by decide +kernel), by decide +kernel⟩
theorem m_519 : (Jvm.Cond.lays "PlanBoundsModel" "PlanBoundsModel" "rows" "I") ∈ AW := List.mem_filter.mpr ⟨List.mem_of_getElem? (i := 572) (by decide +kernel), by decide +kernel⟩
theorem m_521 : (Jvm.Cond.laysFinal "PlanBoundsModel" "PlanBoundsModel" "kinds" "[I") ∈ AW := List.mem_filter.mpr ⟨List.mem_of_getElem? (i := 574) (by decide +kernel), by decide +kernel⟩
theorem m_523 : (Jvm.Cond.laysFinal "PlanBoundsModel" "PlanBoundsModel" "weekOf" "[I") ∈ AW := List.mem_filter.mpr ⟨List.mem_of_getElem? (i := 576) (by decide +kernel), by decide +kernel⟩
theorem m_525 : (Jvm.Cond.laysFinal "PlanBoundsModel" "PlanBoundsModel" "rights" "[J") ∈ AW := List.mem_filter.mpr ⟨List.mem_of_getElem? (i := 578) (by decide +kernel), by decide +kernel⟩
theorem m_527 : (Jvm.Cond.laysFinal "PlanBoundsModel" "PlanBoundsModel" "factors" "[J") ∈ AW := List.mem_filter.mpr ⟨List.mem_of_getElem? (i := 580) (by decide +kernel), by decide +kernel⟩
theorem m_529 : (Jvm.Cond.laysFinal "PlanBoundsModel" "PlanBoundsModel" "lineOf" "[I") ∈ AW := List.mem_filter.mpr ⟨List.mem_of_getElem? (i := 582) (by decide +kernel), by decide +kernel⟩
theorem m_531 : (Jvm.Cond.lays "PlanBoundsModel" "PlanBoundsModel" "lines" "I") ∈ AW := List.mem_filter.mpr ⟨List.mem_of_getElem? (i := 584) (by decide +kernel), by decide +kernel⟩
theorem m_533 : (Jvm.Cond.lays "PlanBoundsModel" "PlanBoundsModel" "hasRun" "Z") ∈ AW := List.mem_filter.mpr ⟨List.mem_of_getElem? (i := 586) (by decide +kernel), by decide +kernel⟩
theorem m_535 : (Jvm.Cond.lays "PlanBoundsModel" "PlanBoundsModel" "steps" "I") ∈ AW := List.mem_filter.mpr ⟨List.mem_of_getElem? (i := 588) (by decide +kernel), by decide +kernel⟩
theorem m_537 : (Jvm.Cond.lays "PlanBoundsModel" "PlanBoundsModel" "down" "J") ∈ AW := List.mem_filter.mpr ⟨List.mem_of_getElem? (i := 590) (by decide +kernel), by decide +kernel⟩
theorem m_539 : (Jvm.Cond.laysFinal "PlanBoundsModel" "PlanBoundsModel" "place" "[I") ∈ AW := List.mem_filter.mpr ⟨List.mem_of_getElem? (i := 592) (by decide +kernel), by decide +kernel⟩
theorem m_541 : (Jvm.Cond.laysFinal "PlanBoundsModel" "PlanBoundsModel" "outside" "[I") ∈ AW := List.mem_filter.mpr ⟨List.mem_of_getElem? (i := 594) (by decide +kernel), by decide +kernel⟩
theorem m_543 : (Jvm.Cond.laysFinal "PlanBoundsModel" "PlanBoundsModel" "table" "[J") ∈ AW := List.mem_filter.mpr ⟨List.mem_of_getElem? (i := 596) (by decide +kernel), by decide +kernel⟩
theorem m_545 : (Jvm.Cond.laysFinal "PlanBoundsModel" "PlanBoundsModel" "next" "[J") ∈ AW := List.mem_filter.mpr ⟨List.mem_of_getElem? (i := 598) (by decide +kernel), by decide +kernel⟩
theorem m_547 : (Jvm.Cond.lays "PlanBoundsModel" "PlanBoundsModel" "against" "I") ∈ AW := List.mem_filter.mpr ⟨List.mem_of_getElem? (i := 600) (by decide +kernel), by decide +kernel⟩
theorem iT : ∀ w ∈ u_ws RT FT 8, w ∈ AW := by
  intro w h
  obtain ⟨j, hj, rfl⟩ := List.mem_map.mp h
  have hj : j < 8 := List.mem_range.mp hj
  match j, hj with
  | 0, _ => exact m_38
  | 1, _ => exact m_40
  | 2, _ => exact m_42
  | 3, _ => exact m_44
  | 4, _ => exact m_46
  | 5, _ => exact m_48
  | 6, _ => exact m_50
  | 7, _ => exact m_52
  | n + 8, h => exact absurd h (by omega)
theorem iP : ∀ w ∈ u_ws RP FP 12, w ∈ AW := by
  intro w h
  obtain ⟨j, hj, rfl⟩ := List.mem_map.mp h
  have hj : j < 12 := List.mem_range.mp hj
  match j, hj with
  | 0, _ => exact m_75
  | 1, _ => exact m_77
  | 2, _ => exact m_79
  | 3, _ => exact m_81
  | 4, _ => exact m_83
  | 5, _ => exact m_85
  | 6, _ => exact m_87
  | 7, _ => exact m_89
  | 8, _ => exact m_91
  | 9, _ => exact m_93
  | 10, _ => exact m_95
  | 11, _ => exact m_97
  | n + 12, h => exact absurd h (by omega)
theorem iM : ∀ w ∈ u_ws RM FM 19, w ∈ AW := by
  intro w h
  obtain ⟨j, hj, rfl⟩ := List.mem_map.mp h
  have hj : j < 19 := List.mem_range.mp hj
  match j, hj with
  | 0, _ => exact m_511
  | 1, _ => exact m_513
  | 2, _ => exact m_515
  | 3, _ => exact m_517
  | 4, _ => exact m_519
  | 5, _ => exact m_521
  | 6, _ => exact m_523
  | 7, _ => exact m_525
  | 8, _ => exact m_527
  | 9, _ => exact m_529
  | 10, _ => exact m_531
  | 11, _ => exact m_533
  | 12, _ => exact m_535
  | 13, _ => exact m_537
  | 14, _ => exact m_539
  | 15, _ => exact m_541
  | 16, _ => exact m_543
  | 17, _ => exact m_545
  | 18, _ => exact m_547
  | n + 19, h => exact absurd h (by omega)
end
section
/-! rows of my own over the kit's: numbers by Nat, long compares in one row, reading calls (the heap stays), writing calls (the callee's cells are the last of the caller's) -/
section HP
variable {p : Program} {l : Launch} {e : Env} {R : Room} {s : State} {m : MethodId} {args : Array Value} {below : List Frame} {meth : Method} {c : Code} {H : Heap} {locs : List Loc} {cells slots : Nat} {Q : State → Prop} {cc : ByteArray} {pc : Nat} {ls : Array Slot} {rest : List Value}
theorem st_i {x y : Int32} (h : x = y) (k : W p l e R s m args below meth c H locs cells slots Q (F0 m pc ls (.int y :: rest))) : W p l e R s m args below meth c H locs cells slots Q (F0 m pc ls (.int x :: rest)) := by
  rw [h]; exact k
theorem st_l {x y : Int64} (h : x = y) (k : W p l e R s m args below meth c H locs cells slots Q (F0 m pc ls (.long y :: rest))) : W p l e R s m args below meth c H locs cells slots Q (F0 m pc ls (.long x :: rest)) := by
  rw [h]; exact k
/-- compares of ints that are known by Nat -/
theorem ni_eq (hexec : p.tables.exec = Jvm.exec) (hb : c.code = cc) {a b : Nat} {off : Int} {tgt : Nat} (hdg : decode cc pc = .ok (.if_icmp .eq off, 3)) (ht : (pc : Int) + off = (tgt : Int)) (h1 : a < 2 ^ 31) (h2 : b < 2 ^ 31)
    (kt : a = b → W p l e R s m args below meth c H locs cells slots Q (F0 m tgt ls rest)) (kf : ¬ a = b → W p l e R s m args below meth c H locs cells slots Q (F0 m (pc + 3) ls rest)) : W p l e R s m args below meth c H locs cells slots Q (F0 m pc ls (.int (nI b) :: .int (nI a) :: rest)) :=
  lv_icmp_eq hexec hb hdg ht (fun q => kt ((nI_eq h1 h2).mp q)) (fun q => kf (fun z => q ((nI_eq h1 h2).mpr z)))
theorem ni_ne (hexec : p.tables.exec = Jvm.exec) (hb : c.code = cc) {a b : Nat} {off : Int} {tgt : Nat} (hdg : decode cc pc = .ok (.if_icmp .ne off, 3)) (ht : (pc : Int) + off = (tgt : Int)) (h1 : a < 2 ^ 31) (h2 : b < 2 ^ 31)
    (kt : ¬ a = b → W p l e R s m args below meth c H locs cells slots Q (F0 m tgt ls rest)) (kf : a = b → W p l e R s m args below meth c H locs cells slots Q (F0 m (pc + 3) ls rest)) : W p l e R s m args below meth c H locs cells slots Q (F0 m pc ls (.int (nI b) :: .int (nI a) :: rest)) :=
  lv_icmp_ne hexec hb hdg ht (fun q => kt (fun z => q ((nI_eq h1 h2).mpr z))) (fun q => kf ((nI_eq h1 h2).mp q))
theorem ni_lt (hexec : p.tables.exec = Jvm.exec) (hb : c.code = cc) {a b : Nat} {off : Int} {tgt : Nat} (hdg : decode cc pc = .ok (.if_icmp .lt off, 3)) (ht : (pc : Int) + off = (tgt : Int)) (h1 : a < 2 ^ 31) (h2 : b < 2 ^ 31)
    (kt : a < b → W p l e R s m args below meth c H locs cells slots Q (F0 m tgt ls rest)) (kf : b ≤ a → W p l e R s m args below meth c H locs cells slots Q (F0 m (pc + 3) ls rest)) : W p l e R s m args below meth c H locs cells slots Q (F0 m pc ls (.int (nI b) :: .int (nI a) :: rest)) :=
  lv_icmp_lt hexec hb hdg ht (fun q => kt ((nI_ltI h1 h2).mp q)) (fun q => kf (Nat.not_lt.mp (fun z => q ((nI_ltI h1 h2).mpr z))))
theorem ni_ge (hexec : p.tables.exec = Jvm.exec) (hb : c.code = cc) {a b : Nat} {off : Int} {tgt : Nat} (hdg : decode cc pc = .ok (.if_icmp .ge off, 3)) (ht : (pc : Int) + off = (tgt : Int)) (h1 : a < 2 ^ 31) (h2 : b < 2 ^ 31)
    (kt : b ≤ a → W p l e R s m args below meth c H locs cells slots Q (F0 m tgt ls rest)) (kf : a < b → W p l e R s m args below meth c H locs cells slots Q (F0 m (pc + 3) ls rest)) : W p l e R s m args below meth c H locs cells slots Q (F0 m pc ls (.int (nI b) :: .int (nI a) :: rest)) :=
  lv_icmp_ge hexec hb hdg ht (fun q => kt ((nI_leI h2 h1).mp q)) (fun q => kf (Nat.not_le.mp (fun z => q ((nI_leI h2 h1).mpr z))))
theorem ni_gt (hexec : p.tables.exec = Jvm.exec) (hb : c.code = cc) {a b : Nat} {off : Int} {tgt : Nat} (hdg : decode cc pc = .ok (.if_icmp .gt off, 3)) (ht : (pc : Int) + off = (tgt : Int)) (h1 : a < 2 ^ 31) (h2 : b < 2 ^ 31)
    (kt : b < a → W p l e R s m args below meth c H locs cells slots Q (F0 m tgt ls rest)) (kf : a ≤ b → W p l e R s m args below meth c H locs cells slots Q (F0 m (pc + 3) ls rest)) : W p l e R s m args below meth c H locs cells slots Q (F0 m pc ls (.int (nI b) :: .int (nI a) :: rest)) :=
  lv_icmp_gt hexec hb hdg ht (fun q => kt ((nI_ltI h2 h1).mp q)) (fun q => kf (Nat.not_lt.mp (fun z => q ((nI_ltI h2 h1).mpr z))))
theorem ni_le (hexec : p.tables.exec = Jvm.exec) (hb : c.code = cc) {a b : Nat} {off : Int} {tgt : Nat} (hdg : decode cc pc = .ok (.if_icmp .le off, 3)) (ht : (pc : Int) + off = (tgt : Int)) (h1 : a < 2 ^ 31) (h2 : b < 2 ^ 31)
    (kt : a ≤ b → W p l e R s m args below meth c H locs cells slots Q (F0 m tgt ls rest)) (kf : b < a → W p l e R s m args below meth c H locs cells slots Q (F0 m (pc + 3) ls rest)) : W p l e R s m args below meth c H locs cells slots Q (F0 m pc ls (.int (nI b) :: .int (nI a) :: rest)) :=
  lv_icmp_le hexec hb hdg ht (fun q => kt ((nI_leI h1 h2).mp q)) (fun q => kf (Nat.not_le.mp (fun z => q ((nI_leI h1 h2).mpr z))))
/-- a compare of longs and the branch behind it -/
theorem ll_lt (hexec : p.tables.exec = Jvm.exec) (hb : c.code = cc) {x y : Int64} {off : Int} {tgt : Nat} (h1 : decode cc pc = .ok (.lcmp, 1)) (h2 : decode cc (pc + 1) = .ok (.ifCond .lt off, 3)) (ht : ((pc + 1 : Nat) : Int) + off = (tgt : Int))
    (kt : x < y → W p l e R s m args below meth c H locs cells slots Q (F0 m tgt ls rest)) (kf : ¬ x < y → W p l e R s m args below meth c H locs cells slots Q (F0 m (pc + 1 + 3) ls rest)) : W p l e R s m args below meth c H locs cells slots Q (F0 m pc ls (.long y :: .long x :: rest)) :=
  W.lcmp hexec hb h1 (lv_if_lt hexec hb h2 ht (fun q => kt ((lg_cmp_lt x y).mp q)) (fun q => kf (fun z => q ((lg_cmp_lt x y).mpr z))))
theorem ll_ge (hexec : p.tables.exec = Jvm.exec) (hb : c.code = cc) {x y : Int64} {off : Int} {tgt : Nat} (h1 : decode cc pc = .ok (.lcmp, 1)) (h2 : decode cc (pc + 1) = .ok (.ifCond .ge off, 3)) (ht : ((pc + 1 : Nat) : Int) + off = (tgt : Int))
    (kt : ¬ x < y → W p l e R s m args below meth c H locs cells slots Q (F0 m tgt ls rest)) (kf : x < y → W p l e R s m args below meth c H locs cells slots Q (F0 m (pc + 1 + 3) ls rest)) : W p l e R s m args below meth c H locs cells slots Q (F0 m pc ls (.long y :: .long x :: rest)) :=
  W.lcmp hexec hb h1 (lv_if_ge hexec hb h2 ht (fun q => kt (fun z => Int64.not_lt.mpr ((lg_cmp_ge x y).mp q) z)) (fun q => kf (Int64.not_le.mp (fun z => q ((lg_cmp_ge x y).mpr z)))))
theorem ll_gt (hexec : p.tables.exec = Jvm.exec) (hb : c.code = cc) {x y : Int64} {off : Int} {tgt : Nat} (h1 : decode cc pc = .ok (.lcmp, 1)) (h2 : decode cc (pc + 1) = .ok (.ifCond .gt off, 3)) (ht : ((pc + 1 : Nat) : Int) + off = (tgt : Int))
    (kt : y < x → W p l e R s m args below meth c H locs cells slots Q (F0 m tgt ls rest)) (kf : ¬ y < x → W p l e R s m args below meth c H locs cells slots Q (F0 m (pc + 1 + 3) ls rest)) : W p l e R s m args below meth c H locs cells slots Q (F0 m pc ls (.long y :: .long x :: rest)) :=
  W.lcmp hexec hb h1 (lv_if_gt hexec hb h2 ht (fun q => kt ((lg_cmp_gt x y).mp q)) (fun q => kf (fun z => q ((lg_cmp_gt x y).mpr z))))
theorem ll_le (hexec : p.tables.exec = Jvm.exec) (hb : c.code = cc) {x y : Int64} {off : Int} {tgt : Nat} (h1 : decode cc pc = .ok (.lcmp, 1)) (h2 : decode cc (pc + 1) = .ok (.ifCond .le off, 3)) (ht : ((pc + 1 : Nat) : Int) + off = (tgt : Int))
    (kt : ¬ y < x → W p l e R s m args below meth c H locs cells slots Q (F0 m tgt ls rest)) (kf : y < x → W p l e R s m args below meth c H locs cells slots Q (F0 m (pc + 1 + 3) ls rest)) : W p l e R s m args below meth c H locs cells slots Q (F0 m pc ls (.long y :: .long x :: rest)) :=
  W.lcmp hexec hb h1 (lv_if_le hexec hb h2 ht (fun q => kt (fun z => Int64.not_lt.mpr ((lg_cmp_le x y).mp q) z)) (fun q => kf (Int64.not_le.mp (fun z => q ((lg_cmp_le x y).mpr z)))))
theorem ll_eq (hexec : p.tables.exec = Jvm.exec) (hb : c.code = cc) {x y : Int64} {off : Int} {tgt : Nat} (h1 : decode cc pc = .ok (.lcmp, 1)) (h2 : decode cc (pc + 1) = .ok (.ifCond .eq off, 3)) (ht : ((pc + 1 : Nat) : Int) + off = (tgt : Int))
    (kt : x = y → W p l e R s m args below meth c H locs cells slots Q (F0 m tgt ls rest)) (kf : ¬ x = y → W p l e R s m args below meth c H locs cells slots Q (F0 m (pc + 1 + 3) ls rest)) : W p l e R s m args below meth c H locs cells slots Q (F0 m pc ls (.long y :: .long x :: rest)) :=
  W.lcmp hexec hb h1 (lv_if_eq hexec hb h2 ht (fun q => kt ((lg_cmp_eq x y).mp q)) (fun q => kf (fun z => q ((lg_cmp_eq x y).mpr z))))
theorem ll_ne (hexec : p.tables.exec = Jvm.exec) (hb : c.code = cc) {x y : Int64} {off : Int} {tgt : Nat} (h1 : decode cc pc = .ok (.lcmp, 1)) (h2 : decode cc (pc + 1) = .ok (.ifCond .ne off, 3)) (ht : ((pc + 1 : Nat) : Int) + off = (tgt : Int))
    (kt : ¬ x = y → W p l e R s m args below meth c H locs cells slots Q (F0 m tgt ls rest)) (kf : x = y → W p l e R s m args below meth c H locs cells slots Q (F0 m (pc + 1 + 3) ls rest)) : W p l e R s m args below meth c H locs cells slots Q (F0 m pc ls (.long y :: .long x :: rest)) :=
  W.lcmp hexec hb h1 (lv_if_ne hexec hb h2 ht (fun q => kt (fun z => q ((lg_cmp_eq x y).mpr z))) (fun q => kf ((lg_cmp_eq x y).mp q)))
/-- compares of ints, in '<' -/
theorem li_ge (hexec : p.tables.exec = Jvm.exec) (hb : c.code = cc) {x y : Int32} {off : Int} {tgt : Nat} (hdg : decode cc pc = .ok (.if_icmp .ge off, 3)) (ht : (pc : Int) + off = (tgt : Int))
    (kt : ¬ x < y → W p l e R s m args below meth c H locs cells slots Q (F0 m tgt ls rest)) (kf : x < y → W p l e R s m args below meth c H locs cells slots Q (F0 m (pc + 3) ls rest)) : W p l e R s m args below meth c H locs cells slots Q (F0 m pc ls (.int y :: .int x :: rest)) :=
  lv_icmp_ge hexec hb hdg ht (fun q => kt (Int32.not_lt.mpr q)) (fun q => kf (Int32.not_le.mp q))
theorem li_le (hexec : p.tables.exec = Jvm.exec) (hb : c.code = cc) {x y : Int32} {off : Int} {tgt : Nat} (hdg : decode cc pc = .ok (.if_icmp .le off, 3)) (ht : (pc : Int) + off = (tgt : Int))
    (kt : ¬ y < x → W p l e R s m args below meth c H locs cells slots Q (F0 m tgt ls rest)) (kf : y < x → W p l e R s m args below meth c H locs cells slots Q (F0 m (pc + 3) ls rest)) : W p l e R s m args below meth c H locs cells slots Q (F0 m pc ls (.int y :: .int x :: rest)) :=
  lv_icmp_le hexec hb hdg ht (fun q => kt (Int32.not_lt.mpr q)) (fun q => kf (Int32.not_le.mp q))
theorem lz_ge (hexec : p.tables.exec = Jvm.exec) (hb : c.code = cc) {x : Int32} {off : Int} {tgt : Nat} (hdg : decode cc pc = .ok (.ifCond .ge off, 3)) (ht : (pc : Int) + off = (tgt : Int))
    (kt : ¬ x < 0 → W p l e R s m args below meth c H locs cells slots Q (F0 m tgt ls rest)) (kf : x < 0 → W p l e R s m args below meth c H locs cells slots Q (F0 m (pc + 3) ls rest)) : W p l e R s m args below meth c H locs cells slots Q (F0 m pc ls (.int x :: rest)) :=
  lv_if_ge hexec hb hdg ht (fun q => kt (Int32.not_lt.mpr q)) (fun q => kf (Int32.not_le.mp q))
theorem lz_le (hexec : p.tables.exec = Jvm.exec) (hb : c.code = cc) {x : Int32} {off : Int} {tgt : Nat} (hdg : decode cc pc = .ok (.ifCond .le off, 3)) (ht : (pc : Int) + off = (tgt : Int))
    (kt : ¬ 0 < x → W p l e R s m args below meth c H locs cells slots Q (F0 m tgt ls rest)) (kf : 0 < x → W p l e R s m args below meth c H locs cells slots Q (F0 m (pc + 3) ls rest)) : W p l e R s m args below meth c H locs cells slots Q (F0 m pc ls (.int x :: rest)) :=
  lv_if_le hexec hb hdg ht (fun q => kt (Int32.not_lt.mpr q)) (fun q => kf (Int32.not_le.mp q))
/-- answers of boolean methods, and places that may be none -/
def bI (b : Bool) : Int32 := if b then 1 else 0
theorem lb_eq (hexec : p.tables.exec = Jvm.exec) (hb : c.code = cc) {b : Bool} {off : Int} {tgt : Nat} (hdg : decode cc pc = .ok (.ifCond .eq off, 3)) (ht : (pc : Int) + off = (tgt : Int))
    (kt : b = false → W p l e R s m args below meth c H locs cells slots Q (F0 m tgt ls rest)) (kf : b = true → W p l e R s m args below meth c H locs cells slots Q (F0 m (pc + 3) ls rest)) : W p l e R s m args below meth c H locs cells slots Q (F0 m pc ls (.int (bI b) :: rest)) := by
  refine lv_if_eq hexec hb hdg ht (fun q => kt ?_) (fun q => kf ?_)
  · cases b
    · rfl
    · exact absurd q (by decide)
  · cases b
    · exact absurd rfl q
    · rfl
theorem lb_ne (hexec : p.tables.exec = Jvm.exec) (hb : c.code = cc) {b : Bool} {off : Int} {tgt : Nat} (hdg : decode cc pc = .ok (.ifCond .ne off, 3)) (ht : (pc : Int) + off = (tgt : Int))
    (kt : b = true → W p l e R s m args below meth c H locs cells slots Q (F0 m tgt ls rest)) (kf : b = false → W p l e R s m args below meth c H locs cells slots Q (F0 m (pc + 3) ls rest)) : W p l e R s m args below meth c H locs cells slots Q (F0 m pc ls (.int (bI b) :: rest)) := by
  refine lv_if_ne hexec hb hdg ht (fun q => kt ?_) (fun q => kf ?_)
  · cases b
    · exact absurd rfl q
    · rfl
  · cases b
    · rfl
    · exact absurd q (by decide)
def enc (o : Option Nat) : Int32 := match o with
  | none => -1
  | some j => nI j
theorem enc_some {j : Nat} (h : j < 2 ^ 31) : ¬ nI j = -1 := by
  intro q
  have h1 := nI_toInt h
  rw [q] at h1
  have h2 : ((-1 : Int32)).toInt = -1 := by decide
  omega
theorem en_eq (hexec : p.tables.exec = Jvm.exec) (hb : c.code = cc) {o : Option Nat} {off : Int} {tgt : Nat} (hdg : decode cc pc = .ok (.if_icmp .eq off, 3)) (ht : (pc : Int) + off = (tgt : Int)) (ho : ∀ j, o = some j → j < 2 ^ 31)
    (kt : o = none → W p l e R s m args below meth c H locs cells slots Q (F0 m tgt ls rest)) (kf : ∀ j, o = some j → W p l e R s m args below meth c H locs cells slots Q (F0 m (pc + 3) ls rest)) : W p l e R s m args below meth c H locs cells slots Q (F0 m pc ls (.int (-1) :: .int (enc o) :: rest)) := by
  refine lv_icmp_eq hexec hb hdg ht (fun q => ?_) (fun q => ?_)
  · cases o with
    | none => exact kt rfl
    | some j => exact absurd q (enc_some (ho j rfl))
  · cases o with
    | none => exact absurd rfl q
    | some j => exact kf j rfl
theorem en_ne (hexec : p.tables.exec = Jvm.exec) (hb : c.code = cc) {o : Option Nat} {off : Int} {tgt : Nat} (hdg : decode cc pc = .ok (.if_icmp .ne off, 3)) (ht : (pc : Int) + off = (tgt : Int)) (ho : ∀ j, o = some j → j < 2 ^ 31)
    (kt : ∀ j, o = some j → W p l e R s m args below meth c H locs cells slots Q (F0 m tgt ls rest)) (kf : o = none → W p l e R s m args below meth c H locs cells slots Q (F0 m (pc + 3) ls rest)) : W p l e R s m args below meth c H locs cells slots Q (F0 m pc ls (.int (-1) :: .int (enc o) :: rest)) := by
  refine lv_icmp_ne hexec hb hdg ht (fun q => ?_) (fun q => ?_)
  · cases o with
    | none => exact absurd rfl q
    | some j => exact kt j rfl
  · cases o with
    | none => exact kf rfl
    | some j => exact absurd q (enc_some (ho j rfl))
/-! arrays by Nat -/
variable {D : va_G} {cl : List vw_C} {tys : List (ClassId × FieldType)} {ws : va_W} {a : Nat} {A : Nat → Prop} {H0 : Heap}
theorem na_iald (hexec : p.tables.exec = Jvm.exec) (hb : c.code = cc) (hK : va_K D cl tys s) (hP : va_P D cl ws H) (q0 t0 : Nat) {cA : ClassId} {n : Nat} {f : Nat → Int32} (ha : ws[q0]? = some (a, .inl (cA, n, .inl f))) (ht : tys[t0]? = some (cA, .int)) {i : Nat} (hi : i < n) (hn : n < 2 ^ 31) (hdg : decode cc pc = .ok (.iaload, 1))
    (kk : W p l e R s m args below meth c H locs cells slots Q (F0 m (pc + 1) ls (.int (f i) :: rest))) : W p l e R s m args below meth c H locs cells slots Q (F0 m pc ls (.int (nI i) :: .ref a :: rest)) :=
  va_iald hexec hb hK hP q0 t0 ha ht (vp_in_nI hi hn) hdg (by rw [nI_clamp (Nat.lt_trans hi hn)]; exact kk)
theorem na_lald (hexec : p.tables.exec = Jvm.exec) (hb : c.code = cc) (hK : va_K D cl tys s) (hP : va_P D cl ws H) (q0 t0 : Nat) {cA : ClassId} {n : Nat} {f : Nat → Int64} (ha : ws[q0]? = some (a, .inl (cA, n, .inr (.inl f)))) (ht : tys[t0]? = some (cA, .long)) {i : Nat} (hi : i < n) (hn : n < 2 ^ 31) (hdg : decode cc pc = .ok (.laload, 1))
    (kk : W p l e R s m args below meth c H locs cells slots Q (F0 m (pc + 1) ls (.long (f i) :: rest))) : W p l e R s m args below meth c H locs cells slots Q (F0 m pc ls (.int (nI i) :: .ref a :: rest)) :=
  va_lald hexec hb hK hP q0 t0 ha ht (vp_in_nI hi hn) hdg (by rw [nI_clamp (Nat.lt_trans hi hn)]; exact kk)
theorem na_iast (hexec : p.tables.exec = Jvm.exec) (hb : c.code = cc) (hK : va_K D cl tys s) (hP : va_P D cl ws H) (hD : va_D A ws) (hS : va_S A H0 H locs) (q0 t0 : Nat) {cA : ClassId} {n : Nat} {f : Nat → Int32} (ha : ws[q0]? = some (a, .inl (cA, n, .inl f))) (ht : tys[t0]? = some (cA, .int)) {i : Nat} {x : Int32} (hi : i < n) (hn : n < 2 ^ 31) (hdg : decode cc pc = .ok (.iastore, 1))
    (kk : ∀ (H1 : Heap) (locs1 : List Loc), va_P D cl (ws.set q0 (a, .inl (cA, n, .inl (upd f i x)))) H1 → va_D A (ws.set q0 (a, .inl (cA, n, .inl (upd f i x)))) → va_S A H0 H1 locs1 → W p l e R s m args below meth c H1 locs1 cells slots Q (F0 m (pc + 1) ls rest)) : W p l e R s m args below meth c H locs cells slots Q (F0 m pc ls (.int x :: .int (nI i) :: .ref a :: rest)) :=
  va_iast hexec hb hK hP hD hS q0 t0 ha ht (vp_in_nI hi hn) hdg (by rw [nI_clamp (Nat.lt_trans hi hn)]; exact kk)
theorem na_last (hexec : p.tables.exec = Jvm.exec) (hb : c.code = cc) (hK : va_K D cl tys s) (hP : va_P D cl ws H) (hD : va_D A ws) (hS : va_S A H0 H locs) (q0 t0 : Nat) {cA : ClassId} {n : Nat} {f : Nat → Int64} (ha : ws[q0]? = some (a, .inl (cA, n, .inr (.inl f)))) (ht : tys[t0]? = some (cA, .long)) {i : Nat} {x : Int64} (hi : i < n) (hn : n < 2 ^ 31) (hdg : decode cc pc = .ok (.lastore, 1))
    (kk : ∀ (H1 : Heap) (locs1 : List Loc), va_P D cl (ws.set q0 (a, .inl (cA, n, .inr (.inl (vp_updL f i x))))) H1 → va_D A (ws.set q0 (a, .inl (cA, n, .inr (.inl (vp_updL f i x))))) → va_S A H0 H1 locs1 → W p l e R s m args below meth c H1 locs1 cells slots Q (F0 m (pc + 1) ls rest)) : W p l e R s m args below meth c H locs cells slots Q (F0 m pc ls (.long x :: .int (nI i) :: .ref a :: rest)) :=
  va_last hexec hb hK hP hD hS q0 t0 ha ht (vp_in_nI hi hn) hdg (by rw [nI_clamp (Nat.lt_trans hi hn)]; exact kk)
/-- a method that reads: its answer, the heap as it was -/
def rQ (v : Option Value) : Array Value → State → Outcome → State → Prop := fun _ st o t => o = .returned v ∧ t.heap = st.heap
/-- what a contract says of the tables beside its cells: it outlives a call's own steps -/
def xOK (X : State → Prop) : Prop := (∀ u U : State, u.vm = U.vm → X u → X U) ∧ ∀ u U : State, u.WarmedH U.vm → X u → X U
def xT : State → Prop := fun _ => True
theorem xT_ok : xOK xT := ⟨fun _ _ _ _ => trivial, fun _ _ _ _ => trivial⟩
def rPc (av : List Value) (D : va_G) (cl : List vw_C) (ws : va_W) (tys : List (ClassId × FieldType)) (X : State → Prop) : Array Value → State → Prop := va_Pc av (fun U => va_P D cl ws U.heap ∧ va_K D cl tys U ∧ X U)
theorem rPc.blind {av : List Value} {X : State → Prop} (hX : xOK X) : FrameBlind (rPc av D cl ws tys X) := fun a U g mk q => by
  obtain ⟨q0, qP, qK, qX⟩ := q
  exact ⟨q0, qP, va_K.moved (u := U) (U := U.calling g mk a) (Vm.Alike.refl U.vm) qK, hX.1 U (U.calling g mk a) rfl qX⟩
/-- the callee's start, of an object -/
theorem rd_V {As : List Value} {b q0 ci : Nat} {q : vw_C} {fs : List Value} {X : State → Prop} (hO : xOK X) (hX : X s) (hK : va_K D cl tys s) (hP : va_P D cl ws H) (hc : cl[ci]? = some q) (he : ws[q0]? = some (b, .inr (ci, fs))) : PreV s H q.1 b (rPc (.ref b :: As) D cl ws tys X) As :=
  ⟨rPc.blind hO, va_recv hK hP hc he, fun U hU hW => ⟨rfl, by rw [hU]; exact hP, va_K.moved hW.alike hK, hO.2 s U hW hX⟩⟩
theorem rd_S {As : List Value} {X : State → Prop} (hO : xOK X) (hX : X s) (hK : va_K D cl tys s) (hP : va_P D cl ws H) : PreS s H (rPc As D cl ws tys X) As :=
  ⟨rPc.blind hO, fun U hU hW => ⟨rfl, by rw [hU]; exact hP, va_K.moved hW.alike hK, hO.2 s U hW hX⟩⟩
theorem rd_call {g : JFrame} {v : Option Value} {av : Array Value} (hr : va_Run p l e R s m args below meth c H locs cells slots 0 0 g rest (rQ v av) (fun _ => False)) (kk : W p l e R s m args below meth c H locs cells slots Q { g with pc := g.pc + 3, stack := v.toList ++ rest }) : W p l e R s m args below meth c H locs cells slots Q g := by
  intro T hT X
  obtain ⟨v2, st₀, t, T', L, h0, X', hL, e1, e2, ⟨hv, hh⟩, st⟩ := hr T hT X
  cases hv
  obtain ⟨t2, a1, b1⟩ := kk T' (by rw [e1, hh, h0]) (Stand.forget X' (fun q h => (hL q h).elim))
  exact ⟨t2, st t2 a1, b1⟩
/-- a method that writes: its answer, its cells, nothing else old changed -/
def wQ (v : Option Value) (D : va_G) (cl : List vw_C) (ws' : va_W) (A : Nat → Prop) : Array Value → State → Outcome → State → Prop := fun _ st o t => o = .returned v ∧ va_P D cl ws' t.heap ∧ va_F A st t
def wPc (av : List Value) (sz : Nat) (D : va_G) (cl : List vw_C) (ws : va_W) (tys : List (ClassId × FieldType)) (X : State → Prop) : Array Value → State → Prop := va_Pc av (fun U => U.heap.size = sz ∧ va_P D cl ws U.heap ∧ va_K D cl tys U ∧ va_D (fun _ => True) ws ∧ X U)
theorem wPc.blind {av : List Value} {sz : Nat} {X : State → Prop} (hX : xOK X) : FrameBlind (wPc av sz D cl ws tys X) := fun a U g mk q => by
  obtain ⟨q0, q1, qP, qK, qD, qX⟩ := q
  exact ⟨q0, q1, qP, va_K.moved (u := U) (U := U.calling g mk a) (Vm.Alike.refl U.vm) qK, qD, hX.1 U (U.calling g mk a) rfl qX⟩
theorem wr_V {As : List Value} {b q0 ci : Nat} {q : vw_C} {fs : List Value} {X : State → Prop} (hO : xOK X) (hX : X s) (hK : va_K D cl tys s) (hP : va_P D cl ws H) (hD : va_D A ws) (hc : cl[ci]? = some q) (he : ws[q0]? = some (b, .inr (ci, fs))) : PreV s H q.1 b (wPc (.ref b :: As) H.size D cl ws tys X) As :=
  ⟨wPc.blind hO, va_recv hK hP hc he, fun U hU hW => ⟨rfl, by rw [hU], by rw [hU]; exact hP, va_K.moved hW.alike hK, hD.weaken (fun _ _ _ _ => trivial), hO.2 s U hW hX⟩⟩
theorem wr_S {As : List Value} {X : State → Prop} (hO : xOK X) (hX : X s) (hK : va_K D cl tys s) (hP : va_P D cl ws H) (hD : va_D A ws) : PreS s H (wPc As H.size D cl ws tys X) As :=
  ⟨wPc.blind hO, fun U hU hW => ⟨rfl, by rw [hU], by rw [hU]; exact hP, va_K.moved hW.alike hK, hD.weaken (fun _ _ _ _ => trivial), hO.2 s U hW hX⟩⟩
theorem wr_world {X Y Y' : va_W} {H1 : Heap} (hP : va_P D cl (X ++ Y) H) (hD : va_D A (X ++ Y)) (hk : ∀ q : Nat, q < H.size → ¬ va_A Y H.size q → H1[q]? = H[q]?) (hP1 : va_P D cl Y' H1) (ha : Y'.map Prod.fst = Y.map Prod.fst) : va_P D cl (X ++ Y') H1 ∧ va_D A (X ++ Y') := by
  have hlen : Y'.length = Y.length := by have h := congrArg List.length ha; simpa using h
  have hat : ∀ (k : Nat) (q : Nat × va_E), Y'[k]? = some q → ∃ e, Y[k]? = some (q.1, e) := by
    intro k q hq
    have h1 : (Y'.map Prod.fst)[k]? = some q.1 := by rw [List.getElem?_map, hq]; rfl
    rw [ha, List.getElem?_map] at h1
    cases hy : Y[k]? with
    | none => rw [hy] at h1; cases h1
    | some z =>
      rw [hy] at h1
      obtain ⟨z1, z2⟩ := z
      have h2 : z1 = q.1 := Option.some.inj h1
      subst h2
      exact ⟨z2, rfl⟩
  have hat2 : ∀ (k : Nat) (q : Nat × va_E), (X ++ Y')[k]? = some q → ∃ e, (X ++ Y)[k]? = some (q.1, e) := by
    intro k q hq
    by_cases hk1 : k < X.length
    · rw [List.getElem?_append_left hk1] at hq
      exact ⟨q.2, by rw [List.getElem?_append_left hk1]; exact hq⟩
    · rw [List.getElem?_append_right (by omega)] at hq
      obtain ⟨e1, h1⟩ := hat _ _ hq
      exact ⟨e1, by rw [List.getElem?_append_right (by omega)]; exact h1⟩
  refine ⟨fun k q hq => ?_, fun i j x y hi hj hxy => ?_, fun k q hq => ?_⟩
  · by_cases hk1 : k < X.length
    · rw [List.getElem?_append_left hk1] at hq
      have hq2 : (X ++ Y)[k]? = some q := by rw [List.getElem?_append_left hk1]; exact hq
      refine (hP k q hq2).kept (hk q.1 (hP k q hq2).lt (fun h => ?_))
      rcases h with ⟨k2, e2, h⟩ | h
      · have h3 : (X ++ Y)[X.length + k2]? = some (q.1, e2) := by
          rw [List.getElem?_append_right (by omega)]
          rw [show X.length + k2 - X.length = k2 by omega]
          exact h
        have h4 := hD.1 k (X.length + k2) q (q.1, e2) hq2 h3 rfl
        omega
      · exact absurd (hP k q hq2).lt (by omega)
    · rw [List.getElem?_append_right (by omega)] at hq
      exact hP1 _ q hq
  · obtain ⟨e1, h1⟩ := hat2 i x hi
    obtain ⟨e2, h2⟩ := hat2 j y hj
    exact hD.1 i j _ _ h1 h2 hxy
  · obtain ⟨e1, h1⟩ := hat2 k q hq
    exact hD.2 k (q.1, e1) h1
theorem wr_call {g : JFrame} {v : Option Value} {av : Array Value} {X Y Y' : va_W} {mc ms : Nat} (hr : va_Run p l e R s m args below meth c H locs cells slots mc ms g rest (wQ v D cl Y' (va_A Y H.size) av) (va_A Y H.size)) (hP : va_P D cl (X ++ Y) H) (hD : va_D A (X ++ Y)) (hS : va_S A H0 H locs) (hA : ∀ q, H0.size ≤ q → A q) (ha : Y'.map Prod.fst = Y.map Prod.fst)
    (kk : ∀ (H1 : Heap) (locs1 : List Loc), va_P D cl (X ++ Y') H1 → va_D A (X ++ Y') → va_S A H0 H1 locs1 → W p l e R s m args below meth c H1 locs1 (cells + mc) (slots + ms) Q { g with pc := g.pc + 3, stack := v.toList ++ rest }) : W p l e R s m args below meth c H locs cells slots Q g := by
  intro T hT X9
  obtain ⟨v2, st₀, t, T', L, h0, X', hL, e1, e2, ⟨hv, hP1, hz, hk⟩, st⟩ := hr T hT X9
  cases hv
  rw [h0] at hz hk
  have hYA : ∀ q : Nat, va_A Y H.size q → A q := by
    intro q h
    rcases h with ⟨k2, e2, h⟩ | h
    · have h3 : (X ++ Y)[X.length + k2]? = some (q, e2) := by
        rw [List.getElem?_append_right (by omega)]
        rw [show X.length + k2 - X.length = k2 by omega]
        exact h
      exact hD.2 _ _ h3
    · exact hA q (Nat.le_trans hS.1 h)
  obtain ⟨w1, w2⟩ := wr_world (H1 := t.heap) hP hD hk hP1 ha
  obtain ⟨t2, a1, b1⟩ := kk t.heap (locs ++ L) w1 w2
    ⟨Nat.le_trans hS.1 hz, fun q h1 h2 => by rw [hk q (Nat.lt_of_lt_of_le h1 hS.1) (fun z => h2 (hYA q z))]; exact hS.2.1 q h1 h2, fun q hq => by
      rcases List.mem_append.mp hq with h | h
      · exact hS.2.2 q h
      · exact hYA _ (hL q h)⟩ T' e1 X'
  exact ⟨t2, st t2 a1, b1⟩
/-- a call with more on the stack below it than the kit's row takes -/
theorem wd_room {m : MethodId} {pc : Nat} {ls : Array Slot} {rest st : List Value} (h : (st.map fun v => v.category).sum ≤ 16) : 2 * (F0 m pc ls rest).monitorRoom + (st.map fun v => v.category).sum ≤ 16 := by
  have h0 : (F0 m pc ls rest).monitorRoom = 0 := rfl
  omega
theorem wd_runV {y : MethodName} {bytes cc : ByteArray} {maxL nL mc ms n index : Nat} {ret : Option FieldType} {ws : List Cond} {rm : Room} {Pc : Array Value → State → Prop} {Qc : Array Value → State → Outcome → State → Prop} {free : Addr → Prop} {Ts : List Cond} {own C : String} {b : Addr} {As rest : List Value} {g : JFrame}
    (S : CallFix p m c cc nL s args Ts own) (hM : Met l y ws rm Pc Qc mc ms free) (cw : CallW R s args own C index y bytes maxL ret ws rm mc ms n) (hlo : 16 + (maxL + 11) + rm.locals ≤ R.locals) (hp : PreV s H C b Pc As)
    (hg : g.method = m) (hn : As.length = n) (hsize : g.locals.size = nL) (hstack : g.stack = As.reverse ++ .ref b :: rest) (hW : 2 * g.monitorRoom + (rest.map fun v => v.category).sum ≤ 16) (hdg : decode cc g.pc = .ok (.invokevirtual index, 3)) (hf : cells + mc ≤ R.cells ∧ slots + ms ≤ R.slots) :
    va_Run p l e R s m args below meth c H locs cells slots mc ms g rest (Qc (Value.ref b :: As).toArray) free := by
  obtain ⟨⟨hrc, hrs, hfr, -, hws, hcw, hcode, hini, hy, hlen, hl⟩, hin, hse⟩ := cw
  have hK : Back l R p e below s args y 3 16 (PreOf R mc ms Pc) (PostOf Qc mc ms free) :=
    back_of (bytes := bytes) (maxL := maxL) (ret := ret) hM hp.1 hrc hrs hfr hlo hws hcw (fun a' U h9 => word_at h9 (Or.inl (by first | rfl | simp [Cond.onTables, Cond.keeps, Cond.steady])) hini)
  obtain ⟨hx, hb, hml, ho, -⟩ := S
  obtain ⟨-, ⟨cellB, hcB, hoB, hclB⟩, hPc⟩ := hp
  intro T hT X
  obtain ⟨v, vm₁, ⟨U', l2, c2, s2⟩, hW₁, X', ⟨g', mk, t, L, e1, e2, hq, h1, hL, h2, h3⟩, st⟩ := callV X hx (C := C) (bytes := bytes) (maxL := maxL) (ret := ret) ho hl hin hse hcode hy hK (by rw [hT]; exact hcB) hoB hclB hg (hsize.trans hml.symm) (argsL := As) (rest := rest) (fun sig h => hn.trans (hlen sig h)) hstack hW (by rw [hb]; exact hdg)
    (fun vm₁ hW₁ => ⟨hf.1, hf.2, hPc (T.setVm vm₁) hT hW₁⟩)
  dsimp only [Pt.U, Pt.locs, Pt.cells, Pt.slots] at X' e1 e2 h1 h2 h3 st
  subst h1; subst h2; subst h3
  exact ⟨v, (T.setVm vm₁).calling g' mk (Value.ref b :: As).toArray, t, U', L, hT, X', hL, e1, e2, hq, st⟩
theorem va_P_nil : va_P D cl [] H := fun k q h => by simp at h
theorem nar_bI (b : Bool) : narrow .boolean (.int (bI b)) = .int (bI b) := by cases b <;> rfl
end HP
end
section
/-! the states of the class, and what its methods compute, as functions -/
def TS : Type := (Nat → Int64) × (Nat → Int32) × (Nat → Int32) × (Nat → Int64) × (Nat → Int64) × Nat × Nat × Int64
def TS.C (T : TS) : Nat → Int64 := T.1
def TS.I (T : TS) : Nat → Int32 := T.2.1
def TS.O (T : TS) : Nat → Int32 := T.2.2.1
def TS.G (T : TS) : Nat → Int64 := T.2.2.2.1
def TS.S (T : TS) : Nat → Int64 := T.2.2.2.2.1
def TS.w (T : TS) : Nat := T.2.2.2.2.2.1
def TS.h (T : TS) : Nat := T.2.2.2.2.2.2.1
def TS.d (T : TS) : Int64 := T.2.2.2.2.2.2.2
def ts (C : Nat → Int64) (I O : Nat → Int32) (G S : Nat → Int64) (w h : Nat) (d : Int64) : TS := (C, I, O, G, S, w, h, d)
def fnd (f : Nat → Int32) (v : Int32) : Nat → Nat → Option Nat
  | _, 0 => none
  | i, n + 1 => if f i = v then some i else fnd f v (i + 1) n
theorem fnd_lt {f : Nat → Int32} {v : Int32} : ∀ {n i j : Nat}, fnd f v i n = some j → i ≤ j ∧ j < i + n := by
  intro n
  induction n with
  | zero => intro i j h; simp [fnd] at h
  | succ n ih =>
    intro i j h
    simp only [fnd] at h
    split at h
    · cases h; omega
    · have := ih h; omega
def TS.start (T : TS) (v : Int32) : Int64 := match fnd T.I v 1 T.h with
  | none => 0
  | some i => T.C (i * 13 + 0)
def TS.num (T : TS) (i : Nat) (v : Int32) : Int64 := match fnd T.O v 1 T.w with
  | none => 0
  | some k => T.C (i * 13 + k)
def fits9 (v : Int64) : Bool := !(decide (v < -1000000000)) && !(decide (1000000000 < v))
def sumS (T : TS) (F : Nat → Int32) (f0 : Nat) : Nat → Nat → Int64 → Int64
  | _, 0, acc => acc
  | j, n + 1, acc => sumS T F f0 (j + 1) n (acc + (F (f0 + j)).toInt64 * T.start (nI j))
def allF (f : Nat → Int64) : Nat → Nat → Bool
  | _, 0 => true
  | k, n + 1 => fits9 (f k) && allF f (k + 1) n
def tcL (C : Nat → Int64) (i : Nat) (f : Int64) : Nat → Nat → (Nat → Int64) → (Nat → Int64)
  | _, 0, G => G
  | k, n + 1, G => tcL C i f (k + 1) n (vp_updL G k (G k + f * C (i * 13 + k)))
def tcM (T : TS) (v : Int32) (f : Int64) (G : Nat → Int64) : Nat → Int64 := match fnd T.O v 1 T.w with
  | some k => vp_updL G k (G k + f * T.d)
  | none => match fnd T.I v 1 T.h with
    | none => G
    | some i => tcL T.C i f 0 (T.w + 1) G
def fillL (v : Int64) : Nat → Nat → (Nat → Int64) → (Nat → Int64)
  | _, 0, G => G
  | k, n + 1, G => fillL v (k + 1) n (vp_updL G k v)
def teL (T : TS) (F : Nat → Int32) (f0 : Nat) : Nat → Nat → (Nat → Int64) → (Nat → Int64)
  | _, 0, G => G
  | j, n + 1, G => teL T F f0 (j + 1) n (tcM T (nI j) (F (f0 + j)).toInt64 G)
def teE (T : TS) (r : Int64) (G : Nat → Int64) : Nat → Int64 := vp_updL G 0 (G 0 - T.d * r)
def teM (T : TS) (F : Nat → Int32) (f0 : Nat) (r : Int64) : Nat → Int64 := teE T r (teL T F f0 0 T.w (fillL 0 0 13 T.G))
def btL (G : Nat → Int64) (h : Nat) (s : Int64) : Nat → Nat → (Nat → Int64) → (Nat → Int64)
  | _, 0, C => C
  | k, n + 1, C => btL G h s (k + 1) n (vp_updL C (h * 13 + k) (s * G k))
def btM (T : TS) (s : Int32) : TS := if 24 ≤ T.h then T else ts (btL T.G (T.h + 1) s.toInt64 0 (T.w + 1) T.C) (upd T.I (T.h + 1) (nI (T.w + T.h))) T.O T.G T.S T.w (T.h + 1) T.d
def lvB (T : TS) (i : Nat) (b : Option Nat) : Bool := decide (T.C (i * 13 + 0) < 0) && (match b with | none => true | some j => decide (T.I i < T.I j))
def lvM (T : TS) : Nat → Nat → Option Nat → Option Nat
  | _, 0, b => b
  | i, n + 1, b => lvM T (i + 1) n (if lvB T i b then some i else b)
def ebM (T : TS) (le k o : Nat) : Bool := decide (T.C (0 * 13 + k) * T.C (le * 13 + o) < T.C (0 * 13 + o) * T.C (le * 13 + k)) || (decide (T.C (0 * 13 + k) * T.C (le * 13 + o) = T.C (0 * 13 + o) * T.C (le * 13 + k)) && decide (T.O k < T.O o))
def enB (T : TS) (le k : Nat) (b : Option Nat) : Bool := decide (0 < T.C (le * 13 + k)) && (match b with | none => true | some o => ebM T le k o)
def enM (T : TS) (le : Nat) : Nat → Nat → Option Nat → Option Nat
  | _, 0, b => b
  | k, n + 1, b => enM T le (k + 1) n (if enB T le k b then some k else b)
def afM (d v p c w : Int64) : Int64 := if d = 0 then 0 else (v * p - c * w) / d
def otM (T : TS) (i le en : Nat) : Nat → Nat → Bool
  | _, 0 => true
  | k, n + 1 => (if k = en then true else fits9 (afM T.d (T.C (i * 13 + k)) (T.C (le * 13 + en)) (T.C (i * 13 + en)) (T.C (le * 13 + k)))) && otM T i le en (k + 1) n
def sfM (T : TS) (le en : Nat) : Nat → Nat → Bool
  | _, 0 => true
  | i, n + 1 => (if i = le then true else otM T i le en 0 (T.w + 1)) && sfM T le en (i + 1) n
def coL (d : Int64) (i le en : Nat) (p c : Int64) : Nat → Nat → (Nat → Int64) → (Nat → Int64)
  | _, 0, C => C
  | k, n + 1, C => coL d i le en p c (k + 1) n (if k = en then C else vp_updL C (i * 13 + k) (afM d (C (i * 13 + k)) p c (C (le * 13 + k))))
def coM (d : Int64) (w i le en : Nat) (C : Nat → Int64) : Nat → Int64 := coL d i le en (C (le * 13 + en)) (C (i * 13 + en)) 0 (w + 1) C
def chL (d : Int64) (w le en : Nat) : Nat → Nat → (Nat → Int64) → (Nat → Int64)
  | _, 0, C => C
  | i, n + 1, C => chL d w le en (i + 1) n (if i = le then C else coM d w i le en C)
def ceL (d : Int64) (le en : Nat) : Nat → Nat → (Nat → Int64) → (Nat → Int64)
  | _, 0, C => C
  | k, n + 1, C => ceL d le en (k + 1) n (vp_updL C (le * 13 + k) (if k = en then d else -(C (le * 13 + k))))
def chM (T : TS) (le en : Nat) : TS := ts (ceL T.d le en 0 (T.w + 1) (chL T.d T.w le en 0 (T.h + 1) T.C)) (upd T.I le (T.O en)) (upd T.O en (T.I le)) T.G T.S T.w T.h (T.C (le * 13 + en))
def csL (C : Nat → Int64) : Nat → Nat → (Nat → Int64) → (Nat → Int64)
  | _, 0, S => S
  | i, n + 1, S => csL C (i + 1) n (vp_updL S i (C (i * 13 + 0)))
def mcL (C : Nat → Int64) (k : Nat) (by9 : Int64) : Nat → Nat → (Nat → Int64) → (Nat → Int64)
  | _, 0, S => S
  | i, n + 1, S => mcL C k by9 (i + 1) n (vp_updL S i (S i - C (i * 13 + k) * by9))
def mcM (T : TS) (v : Int32) (by9 : Int64) : Nat → Int64 := match fnd T.I v 1 T.h with
  | some i => vp_updL T.S i (T.S i + T.d * by9)
  | none => match fnd T.O v 1 T.w with
    | none => T.S
    | some k => mcL T.C k by9 0 (T.h + 1) T.S
def tkL (S : Nat → Int64) : Nat → Nat → (Nat → Int64) → (Nat → Int64)
  | _, 0, C => C
  | i, n + 1, C => tkL S (i + 1) n (vp_updL C (i * 13 + 0) (S i))
def PS : Type := (Nat → Int32) × (Nat → Int32) × (Nat → Int64) × (Nat → Int32) × Int32 × Nat × Nat × Int32 × Bool × Int32
def PS.K (P : PS) : Nat → Int32 := P.1
def PS.V (P : PS) : Nat → Int32 := P.2.1
def PS.B (P : PS) : Nat → Int64 := P.2.2.1
def PS.L (P : PS) : Nat → Int32 := P.2.2.2.1
def PS.wk (P : PS) : Int32 := P.2.2.2.2.1
def PS.rows (P : PS) : Nat := P.2.2.2.2.2.1
def PS.rin (P : PS) : Nat := P.2.2.2.2.2.2.1
def PS.stp (P : PS) : Int32 := P.2.2.2.2.2.2.2.1
def PS.run (P : PS) : Bool := P.2.2.2.2.2.2.2.2.1
def PS.lat (P : PS) : Int32 := P.2.2.2.2.2.2.2.2.2
def ps (K V : Nat → Int32) (B : Nat → Int64) (L : Nat → Int32) (wk : Int32) (rows rin : Nat) (stp : Int32) (run : Bool) (lat : Int32) : PS := (K, V, B, L, wk, rows, rin, stp, run, lat)
def rwL (V : Nat → Int32) (v : Int32) : Nat → Nat → Nat → Nat
  | _, 0, f => f
  | i, n + 1, f => rwL V v (i + 1) n (if V i = v then f + 1 else f)
def lnM (K : Nat → Int32) (r : Nat) : Nat := if K r = 2 then 2 else 1
def liM (K : Nat → Int32) (rin r : Nat) : Nat := if r < rin then lnM K r else 0
def sgM (K : Nat → Int32) (r j : Nat) : Int32 := if K r = 1 ∨ j = 1 then -1 else 1
def ovM (B : Nat → Int64) (F : Nat → Int32) (T : TS) (r : Nat) : Int64 := sumS T F (r * 12 + 0) 0 T.w 0 - T.d * B r
def ikM (K : Nat → Int32) (B : Nat → Int64) (F : Nat → Int32) (T : TS) (r : Nat) : Bool :=
  if K r = 0 then !(decide (ovM B F T r < 0)) else if K r = 1 then !(decide (0 < ovM B F T r)) else decide (ovM B F T r = 0)
def ckL (K : Nat → Int32) (B : Nat → Int64) (F : Nat → Int32) (T : TS) : Nat → Nat → Nat
  | _, 0 => 0
  | r, n + 1 => if ikM K B F T r then ckL K B F T (r + 1) n else r + 1
def tmM (T : TS) (o : Option Nat) (v : Int32) : Int64 := match o with
  | none => 0
  | some i => if T.I i = v then T.d else -(T.num i v)
def gcL : Nat → Int64 → Int64 → Int64
  | 0, a, _ => a
  | n + 1, a, b => if b = 0 then a else gcL n b (a - a / b * b)
def abL (x : Int64) : Int64 := if 0 < x then x else -x
def ltM (u l : Int64) (part : Int32) : Int64 := if gcL 100 (abL u) l = 0 then (if part = 0 then u else l) else (if part = 0 then u else l) / gcL 100 (abL u) l
def duL (K L : Nat → Int32) (T : TS) (r : Nat) : Nat → Nat → Int64 → Int64
  | _, 0, acc => acc
  | j, n + 1, acc => duL K L T r (j + 1) n (acc + (sgM K r j).toInt64 * T.num 0 (nI T.w + L r + nI j))
def foL (K L : Nat → Int32) (T : TS) (o : Option Nat) (r : Nat) : Nat → Nat → Int64 → Int64
  | _, 0, acc => acc
  | j, n + 1, acc => foL K L T o r (j + 1) n (acc + (sgM K r j).toInt64 * tmM T o (nI T.w + L r + nI j))
def brL (K : Nat → Int32) (r : Nat) : Nat → Nat → TS → TS
  | _, 0, T => T
  | j, n + 1, T => brL K r (j + 1) n (btM T (sgM K r j))
def teT (T : TS) (F : Nat → Int32) (f0 : Nat) (b : Int64) : TS := ts T.C T.I T.O (teM T F f0 b) T.S T.w T.h T.d
def brM (K : Nat → Int32) (B : Nat → Int64) (L F : Nat → Int32) (T : TS) (r : Nat) : Bool × TS × (Nat → Int32) :=
  if allF (teT T F (r * 12 + 0) (B r)).G 0 (T.w + 1) then (true, brL K r 0 (lnM K r) (teT T F (r * 12 + 0) (B r)), upd L r (nI T.h)) else (false, teT T F (r * 12 + 0) (B r), L)
def bwL (K : Nat → Int32) (B : Nat → Int64) (F : Nat → Int32) : Nat → Nat → TS → (Nat → Int32) → Nat → Bool × TS × (Nat → Int32) × Nat
  | _, 0, T, L, q => (true, T, L, q)
  | r, n + 1, T, L, q => if (brM K B L F T r).1 then bwL K B F (r + 1) n (brM K B L F T r).2.1 (brM K B L F T r).2.2 (r + 1) else (false, (brM K B L F T r).2.1, (brM K B L F T r).2.2, q)
def dsL : Nat → TS → Int32 → Int32 × TS × Int32
  | 0, T, s => (2, T, s)
  | n + 1, T, s => match lvM T 1 T.h none with
    | none => (0, T, s)
    | some le => match enM T le 1 T.w none with
      | none => (1, T, s)
      | some en => if n = 0 then (2, T, s) else if sfM T le en 0 (T.h + 1) then dsL n (chM T le en) (s + 1) else (3, T, s)
def mvL (K L : Nat → Int32) (r : Nat) (by9 : Int64) : Nat → Nat → TS → TS
  | _, 0, T => T
  | j, n + 1, T => mvL K L r by9 (j + 1) n (ts T.C T.I T.O T.G (mcM T (nI T.w + L r + nI j) ((-(sgM K r j)).toInt64 * by9)) T.w T.h T.d)
def mvM (K L : Nat → Int32) (T : TS) (r : Nat) (b : Int64) : Bool × TS := (fun T2 : TS => (allF T2.S 0 (T2.h + 1), ts (if allF T2.S 0 (T2.h + 1) then tkL T2.S 0 (T2.h + 1) T2.C else T2.C) T2.I T2.O T2.G T2.S T2.w T2.h T2.d)) (mvL K L r b 0 (lnM K r) (ts T.C T.I T.O T.G (csL T.C 0 (T.h + 1) T.S) T.w T.h T.d))
theorem lnM_le (K : Nat → Int32) (r : Nat) : lnM K r ≤ 2 := by unfold lnM; split <;> omega
theorem btM_w (T : TS) (s : Int32) : (btM T s).w = T.w := by unfold btM; split <;> rfl
theorem btM_h {T : TS} {s : Int32} (h : T.h ≤ 24) : (btM T s).h ≤ 24 := by
  unfold btM
  split
  · exact h
  · show T.h + 1 ≤ 24
    omega
theorem brL_w (K : Nat → Int32) (r : Nat) : ∀ (n j : Nat) (T : TS), (brL K r j n T).w = T.w := by
  intro n
  induction n with
  | zero => intro j T; rfl
  | succ n ih => intro j T; rw [brL, ih, btM_w]
theorem brL_h (K : Nat → Int32) (r : Nat) : ∀ (n j : Nat) (T : TS), T.h ≤ 24 → (brL K r j n T).h ≤ 24 := by
  intro n
  induction n with
  | zero => intro j T h; exact h
  | succ n ih => intro j T h; rw [brL]; exact ih _ _ (btM_h h)
theorem brM_w (K : Nat → Int32) (B : Nat → Int64) (L F : Nat → Int32) (T : TS) (r : Nat) : (brM K B L F T r).2.1.w = T.w := by
  unfold brM
  split
  · exact brL_w K r _ _ _
  · rfl
theorem brM_h {K : Nat → Int32} {B : Nat → Int64} {L F : Nat → Int32} {T : TS} {r : Nat} (h : T.h ≤ 24) : (brM K B L F T r).2.1.h ≤ 24 := by
  unfold brM
  split
  · exact brL_h K r _ _ _ h
  · exact h
theorem lvM_lt9 {T : TS} : ∀ (n i : Nat) (b : Option Nat) (j : Nat), lvM T i n b = some j → (∃ z, b = some z ∧ z = j) ∨ (i ≤ j ∧ j < i + n) := by
  intro n
  induction n with
  | zero => intro i b j h; exact Or.inl ⟨j, h, rfl⟩
  | succ n ih =>
    intro i b j h
    rw [lvM] at h
    rcases ih _ _ _ h with ⟨z, h1, h2⟩ | h1
    · split at h1
      · cases h1; right; omega
      · left; exact ⟨z, h1, h2⟩
    · right; omega
theorem lvM_lt {T : TS} {j : Nat} (h : lvM T 1 T.h none = some j) : 1 ≤ j ∧ j ≤ T.h := by
  rcases lvM_lt9 _ _ _ _ h with ⟨z, h1, -⟩ | h1
  · cases h1
  · omega
theorem enM_lt9 {T : TS} {le : Nat} : ∀ (n i : Nat) (b : Option Nat) (j : Nat), enM T le i n b = some j → (∃ z, b = some z ∧ z = j) ∨ (i ≤ j ∧ j < i + n) := by
  intro n
  induction n with
  | zero => intro i b j h; exact Or.inl ⟨j, h, rfl⟩
  | succ n ih =>
    intro i b j h
    rw [enM] at h
    rcases ih _ _ _ h with ⟨z, h1, h2⟩ | h1
    · split at h1
      · cases h1; right; omega
      · left; exact ⟨z, h1, h2⟩
    · right; omega
theorem enM_lt {T : TS} {le j : Nat} (h : enM T le 1 T.w none = some j) : 1 ≤ j ∧ j ≤ T.w := by
  rcases enM_lt9 _ _ _ _ h with ⟨z, h1, -⟩ | h1
  · cases h1
  · omega
end
section
/-! the cells of the class: Table (ad 0 .. ad 5), the factors (ad 6), PlanBounds (ad 7 .. ad 11) -/
def TW (ad : Nat → Nat) (k : Nat → ClassId) (T : TS) : va_W := [(ad 0, .inr (0, [.ref (ad 1), .ref (ad 2), .ref (ad 3), .ref (ad 4), .ref (ad 5), .int (nI T.w), .int (nI T.h), .long T.d])), (ad 1, .inl (k 1, 325, .inr (.inl T.C))), (ad 2, .inl (k 2, 25, .inl T.I)), (ad 3, .inl (k 3, 13, .inl T.O)), (ad 4, .inl (k 4, 13, .inr (.inl T.G))), (ad 5, .inl (k 5, 25, .inr (.inl T.S)))]
def FW (ad : Nat → Nat) (k : Nat → ClassId) (F : Nat → Int32) : va_W := [(ad 6, .inl (k 6, 144, .inl F))]
def PW (ad : Nat → Nat) (k : Nat → ClassId) (P : PS) : va_W := [(ad 7, .inr (1, [.int P.wk, .ref (ad 8), .ref (ad 9), .ref (ad 10), .ref (ad 6), .ref (ad 11), .ref (ad 0), .int (nI P.rows), .int (nI P.rin), .int P.stp, .int (bI P.run), .int P.lat])), (ad 8, .inl (k 8, 12, .inl P.K)), (ad 9, .inl (k 9, 12, .inl P.V)), (ad 10, .inl (k 10, 12, .inr (.inl P.B))), (ad 11, .inl (k 11, 12, .inl P.L))]
def TK (k : Nat → ClassId) : List (ClassId × FieldType) := [(k 1, .long), (k 2, .int), (k 3, .int), (k 4, .long), (k 5, .long)]
def FK (k : Nat → ClassId) : List (ClassId × FieldType) := [(k 6, .int)]
def PK (k : Nat → ClassId) : List (ClassId × FieldType) := [(k 8, .int), (k 9, .int), (k 10, .long), (k 11, .int)]
/-! links between nest mates: no word of AW; each contract of PlanBounds takes them as given, the law brings them -/
def nestL : List Cond := [(Jvm.Cond.methodLinkNest "PlanBounds" (28 : Nat) ({ cls := "PlanBounds$Table", name := "<init>", desc := "()V" } : Jvm.MethodName) "PlanBounds"), (Jvm.Cond.fieldLinkNest "PlanBounds" (236 : Nat) "PlanBounds$Table" "inside" "[I" "PlanBounds"), (Jvm.Cond.fieldLinkNest "PlanBounds" (62 : Nat) "PlanBounds$Table" "width" "I" "PlanBounds"), (Jvm.Cond.fieldLinkNest "PlanBounds" (172 : Nat) "PlanBounds$Table" "height" "I" "PlanBounds"), (Jvm.Cond.fieldLinkNest "PlanBounds" (135 : Nat) "PlanBounds$Table" "d" "J" "PlanBounds"), (Jvm.Cond.methodLinkNest "PlanBounds" (195 : Nat) ({ cls := "PlanBounds$Table", name := "sumOfStarts", desc := "([II)J" } : Jvm.MethodName) "PlanBounds"), (Jvm.Cond.methodLinkNest "PlanBounds" (79 : Nat) ({ cls := "PlanBounds$Table", name := "addColumn", desc := "(J)I" } : Jvm.MethodName) "PlanBounds"), (Jvm.Cond.methodLinkNest "PlanBounds" (226 : Nat) ({ cls := "PlanBounds$Table", name := "copyStarts", desc := "()V" } : Jvm.MethodName) "PlanBounds"), (Jvm.Cond.methodLinkNest "PlanBounds" (229 : Nat) ({ cls := "PlanBounds$Table", name := "moveCopied", desc := "(IJ)V" } : Jvm.MethodName) "PlanBounds"), (Jvm.Cond.methodLinkNest "PlanBounds" (233 : Nat) ({ cls := "PlanBounds$Table", name := "takeCopiedStarts", desc := "()Z" } : Jvm.MethodName) "PlanBounds"), (Jvm.Cond.methodLinkNest "PlanBounds" (205 : Nat) ({ cls := "PlanBounds$Table", name := "tell", desc := "([IIJ)V" } : Jvm.MethodName) "PlanBounds"), (Jvm.Cond.methodLinkNest "PlanBounds" (209 : Nat) ({ cls := "PlanBounds$Table", name := "toldFits", desc := "()Z" } : Jvm.MethodName) "PlanBounds"), (Jvm.Cond.methodLinkNest "PlanBounds" (212 : Nat) ({ cls := "PlanBounds$Table", name := "bringTold", desc := "(I)V" } : Jvm.MethodName) "PlanBounds"), (Jvm.Cond.methodLinkNest "PlanBounds" (161 : Nat) ({ cls := "PlanBounds$Table", name := "leavingPlace", desc := "()I" } : Jvm.MethodName) "PlanBounds"), (Jvm.Cond.methodLinkNest "PlanBounds" (215 : Nat) ({ cls := "PlanBounds$Table", name := "enteringPlace", desc := "(I)I" } : Jvm.MethodName) "PlanBounds"), (Jvm.Cond.methodLinkNest "PlanBounds" (218 : Nat) ({ cls := "PlanBounds$Table", name := "stepFits", desc := "(II)Z" } : Jvm.MethodName) "PlanBounds"), (Jvm.Cond.methodLinkNest "PlanBounds" (222 : Nat) ({ cls := "PlanBounds$Table", name := "change", desc := "(II)V" } : Jvm.MethodName) "PlanBounds"), (Jvm.Cond.methodLinkNest "PlanBounds" (131 : Nat) ({ cls := "PlanBounds$Table", name := "cell", desc := "(II)J" } : Jvm.MethodName) "PlanBounds"), (Jvm.Cond.methodLinkNest "PlanBounds" (143 : Nat) ({ cls := "PlanBounds$Table", name := "startOf", desc := "(I)J" } : Jvm.MethodName) "PlanBounds"), (Jvm.Cond.methodLinkNest "PlanBounds" (156 : Nat) ({ cls := "PlanBounds$Table", name := "numberBy", desc := "(II)J" } : Jvm.MethodName) "PlanBounds")]
def nW (U : State) : Prop := ∀ w ∈ nestL, va_Nw w U
theorem nW_ok : xOK nW := by
  refine ⟨fun u U h q w hw => ?_, fun u U h q w hw => ?_⟩
  · have h1 : nestL.all (fun w => w.onTables) = true := by decide +kernel
    exact va_Nw.same (List.all_eq_true.mp h1 w hw) h (q w hw)
  · have hq := q w hw
    simp only [nestL, List.mem_cons, List.not_mem_nil, or_false] at hw
    rcases hw with rfl | rfl | rfl | rfl | rfl | rfl | rfl | rfl | rfl | rfl | rfl | rfl | rfl | rfl | rfl | rfl | rfl | rfl | rfl | rfl <;> first | exact va_Nw.warmF h hq | exact va_Nw.warmM h hq
theorem nw_0 : (Jvm.Cond.methodLinkNest "PlanBounds" (28 : Nat) ({ cls := "PlanBounds$Table", name := "<init>", desc := "()V" } : Jvm.MethodName) "PlanBounds") ∈ nestL := List.mem_of_getElem? (i := 0) rfl
theorem nw_1 : (Jvm.Cond.fieldLinkNest "PlanBounds" (236 : Nat) "PlanBounds$Table" "inside" "[I" "PlanBounds") ∈ nestL := List.mem_of_getElem? (i := 1) rfl
theorem nw_2 : (Jvm.Cond.fieldLinkNest "PlanBounds" (62 : Nat) "PlanBounds$Table" "width" "I" "PlanBounds") ∈ nestL := List.mem_of_getElem? (i := 2) rfl
theorem nw_3 : (Jvm.Cond.fieldLinkNest "PlanBounds" (172 : Nat) "PlanBounds$Table" "height" "I" "PlanBounds") ∈ nestL := List.mem_of_getElem? (i := 3) rfl
theorem nw_4 : (Jvm.Cond.fieldLinkNest "PlanBounds" (135 : Nat) "PlanBounds$Table" "d" "J" "PlanBounds") ∈ nestL := List.mem_of_getElem? (i := 4) rfl
theorem nw_5 : (Jvm.Cond.methodLinkNest "PlanBounds" (195 : Nat) ({ cls := "PlanBounds$Table", name := "sumOfStarts", desc := "([II)J" } : Jvm.MethodName) "PlanBounds") ∈ nestL := List.mem_of_getElem? (i := 5) rfl
theorem nw_6 : (Jvm.Cond.methodLinkNest "PlanBounds" (79 : Nat) ({ cls := "PlanBounds$Table", name := "addColumn", desc := "(J)I" } : Jvm.MethodName) "PlanBounds") ∈ nestL := List.mem_of_getElem? (i := 6) rfl
theorem nw_7 : (Jvm.Cond.methodLinkNest "PlanBounds" (226 : Nat) ({ cls := "PlanBounds$Table", name := "copyStarts", desc := "()V" } : Jvm.MethodName) "PlanBounds") ∈ nestL := List.mem_of_getElem? (i := 7) rfl
theorem nw_8 : (Jvm.Cond.methodLinkNest "PlanBounds" (229 : Nat) ({ cls := "PlanBounds$Table", name := "moveCopied", desc := "(IJ)V" } : Jvm.MethodName) "PlanBounds") ∈ nestL := List.mem_of_getElem? (i := 8) rfl
theorem nw_9 : (Jvm.Cond.methodLinkNest "PlanBounds" (233 : Nat) ({ cls := "PlanBounds$Table", name := "takeCopiedStarts", desc := "()Z" } : Jvm.MethodName) "PlanBounds") ∈ nestL := List.mem_of_getElem? (i := 9) rfl
theorem nw_10 : (Jvm.Cond.methodLinkNest "PlanBounds" (205 : Nat) ({ cls := "PlanBounds$Table", name := "tell", desc := "([IIJ)V" } : Jvm.MethodName) "PlanBounds") ∈ nestL := List.mem_of_getElem? (i := 10) rfl
theorem nw_11 : (Jvm.Cond.methodLinkNest "PlanBounds" (209 : Nat) ({ cls := "PlanBounds$Table", name := "toldFits", desc := "()Z" } : Jvm.MethodName) "PlanBounds") ∈ nestL := List.mem_of_getElem? (i := 11) rfl
theorem nw_12 : (Jvm.Cond.methodLinkNest "PlanBounds" (212 : Nat) ({ cls := "PlanBounds$Table", name := "bringTold", desc := "(I)V" } : Jvm.MethodName) "PlanBounds") ∈ nestL := List.mem_of_getElem? (i := 12) rfl
theorem nw_13 : (Jvm.Cond.methodLinkNest "PlanBounds" (161 : Nat) ({ cls := "PlanBounds$Table", name := "leavingPlace", desc := "()I" } : Jvm.MethodName) "PlanBounds") ∈ nestL := List.mem_of_getElem? (i := 13) rfl
theorem nw_14 : (Jvm.Cond.methodLinkNest "PlanBounds" (215 : Nat) ({ cls := "PlanBounds$Table", name := "enteringPlace", desc := "(I)I" } : Jvm.MethodName) "PlanBounds") ∈ nestL := List.mem_of_getElem? (i := 14) rfl
theorem nw_15 : (Jvm.Cond.methodLinkNest "PlanBounds" (218 : Nat) ({ cls := "PlanBounds$Table", name := "stepFits", desc := "(II)Z" } : Jvm.MethodName) "PlanBounds") ∈ nestL := List.mem_of_getElem? (i := 15) rfl
theorem nw_16 : (Jvm.Cond.methodLinkNest "PlanBounds" (222 : Nat) ({ cls := "PlanBounds$Table", name := "change", desc := "(II)V" } : Jvm.MethodName) "PlanBounds") ∈ nestL := List.mem_of_getElem? (i := 16) rfl
theorem nw_17 : (Jvm.Cond.methodLinkNest "PlanBounds" (131 : Nat) ({ cls := "PlanBounds$Table", name := "cell", desc := "(II)J" } : Jvm.MethodName) "PlanBounds") ∈ nestL := List.mem_of_getElem? (i := 17) rfl
theorem nw_18 : (Jvm.Cond.methodLinkNest "PlanBounds" (143 : Nat) ({ cls := "PlanBounds$Table", name := "startOf", desc := "(I)J" } : Jvm.MethodName) "PlanBounds") ∈ nestL := List.mem_of_getElem? (i := 18) rfl
theorem nw_19 : (Jvm.Cond.methodLinkNest "PlanBounds" (156 : Nat) ({ cls := "PlanBounds$Table", name := "numberBy", desc := "(II)J" } : Jvm.MethodName) "PlanBounds") ∈ nestL := List.mem_of_getElem? (i := 19) rfl
theorem gV {own C : String} {idx : Nat} {y : MethodName} {b : ByteArray} {n : Nat} {r : Option FieldType} (h1 : Cond.methodLink own idx y ∈ AW) (h2 : Cond.instanceMethod y ∈ AW) (h3 : Cond.selects C y y ∈ AW) (h4 : Cond.initialized C ∈ AW) (h5 : Cond.code y b n r ∈ AW) : GoodIn AW (wsV own idx C y (Cond.code y b n r :: AW)) := by
  intro w hw
  refine ⟨?_, ?_⟩
  all_goals
    simp only [wsV, List.mem_append, List.mem_cons, List.not_mem_nil, or_false] at hw
    rcases hw with (rfl | rfl | rfl | rfl) | rfl | hw
    all_goals first | assumption | exact AW_ok (by assumption)
theorem gS {own : String} {idx : Nat} {y : MethodName} {b : ByteArray} {n : Nat} {r : Option FieldType} (h1 : Cond.methodLink own idx y ∈ AW) (h2 : Cond.static y ∈ AW) (h4 : Cond.initialized own ∈ AW) (h5 : Cond.code y b n r ∈ AW) : GoodIn AW (wsS own idx y (Cond.code y b n r :: AW)) := by
  intro w hw
  refine ⟨?_, ?_⟩
  all_goals
    simp only [wsS, List.mem_append, List.mem_cons, List.not_mem_nil, or_false] at hw
    rcases hw with (rfl | rfl | rfl) | rfl | hw
    all_goals first | assumption | exact AW_ok (by assumption)
theorem gA {own : String} {idx : Nat} {y : MethodName} {b : ByteArray} {n : Nat} {r : Option FieldType} (h1 : Cond.methodLink own idx y ∈ AW) (h2 : Cond.static y ∈ AW) (h4 : Cond.initialized y.cls ∈ AW) (h5 : Cond.code y b n r ∈ AW) : GoodIn AW (va_wsS own idx y (Cond.code y b n r :: AW)) := by
  intro w hw
  refine ⟨?_, ?_⟩
  all_goals
    simp only [va_wsS, List.mem_append, List.mem_cons, List.not_mem_nil, or_false] at hw
    rcases hw with (rfl | rfl | rfl) | rfl | hw
    all_goals first | assumption | exact AW_ok (by assumption)
theorem gC {c : Cond} (h5 : c ∈ AW) : GoodIn AW (c :: AW) := by
  intro w hw
  rcases List.mem_cons.mp hw with rfl | hw
  · exact ⟨h5, AW_ok h5⟩
  · exact ⟨hw, AW_ok hw⟩
end
section
theorem dT_init_0 : decode bT_init 0 = .ok (.aload_n 0, 1) := by decide +kernel
theorem dT_init_1 : decode bT_init 1 = .ok (.invokespecial 3, 3) := by decide +kernel
theorem dT_init_4 : decode bT_init 4 = .ok (.aload_n 0, 1) := by decide +kernel
theorem dT_init_5 : decode bT_init 5 = .ok (.sipush 325, 3) := by decide +kernel
theorem dT_init_8 : decode bT_init 8 = .ok (.newarray .long, 2) := by decide +kernel
theorem dT_init_10 : decode bT_init 10 = .ok (.putfield 11, 3) := by decide +kernel
theorem dT_init_13 : decode bT_init 13 = .ok (.aload_n 0, 1) := by decide +kernel
theorem dT_init_14 : decode bT_init 14 = .ok (.bipush 25, 2) := by decide +kernel
theorem dT_init_16 : decode bT_init 16 = .ok (.newarray .int, 2) := by decide +kernel
theorem dT_init_18 : decode bT_init 18 = .ok (.putfield 15, 3) := by decide +kernel
theorem dT_init_21 : decode bT_init 21 = .ok (.aload_n 0, 1) := by decide +kernel
theorem dT_init_22 : decode bT_init 22 = .ok (.bipush 13, 2) := by decide +kernel
theorem dT_init_24 : decode bT_init 24 = .ok (.newarray .int, 2) := by decide +kernel
theorem dT_init_26 : decode bT_init 26 = .ok (.putfield 19, 3) := by decide +kernel
theorem dT_init_29 : decode bT_init 29 = .ok (.aload_n 0, 1) := by decide +kernel
theorem dT_init_30 : decode bT_init 30 = .ok (.bipush 13, 2) := by decide +kernel
theorem dT_init_32 : decode bT_init 32 = .ok (.newarray .long, 2) := by decide +kernel
theorem dT_init_34 : decode bT_init 34 = .ok (.putfield 22, 3) := by decide +kernel
theorem dT_init_37 : decode bT_init 37 = .ok (.aload_n 0, 1) := by decide +kernel
theorem dT_init_38 : decode bT_init 38 = .ok (.bipush 25, 2) := by decide +kernel
theorem dT_init_40 : decode bT_init 40 = .ok (.newarray .long, 2) := by decide +kernel
theorem dT_init_42 : decode bT_init 42 = .ok (.putfield 25, 3) := by decide +kernel
theorem dT_init_45 : decode bT_init 45 = .ok (.aload_n 0, 1) := by decide +kernel
theorem dT_init_46 : decode bT_init 46 = .ok (.iconst 0, 1) := by decide +kernel
theorem dT_init_47 : decode bT_init 47 = .ok (.putfield 28, 3) := by decide +kernel
theorem dT_init_50 : decode bT_init 50 = .ok (.aload_n 0, 1) := by decide +kernel
theorem dT_init_51 : decode bT_init 51 = .ok (.iconst 0, 1) := by decide +kernel
theorem dT_init_52 : decode bT_init 52 = .ok (.putfield 32, 3) := by decide +kernel
theorem dT_init_55 : decode bT_init 55 = .ok (.aload_n 0, 1) := by decide +kernel
theorem dT_init_56 : decode bT_init 56 = .ok (.lconst 1, 1) := by decide +kernel
theorem dT_init_57 : decode bT_init 57 = .ok (.putfield 35, 3) := by decide +kernel
theorem dT_init_60 : decode bT_init 60 = .ok (.return_, 1) := by decide +kernel
theorem dT_cell_0 : decode bT_cell 0 = .ok (.aload_n 0, 1) := by decide +kernel
theorem dT_cell_1 : decode bT_cell 1 = .ok (.getfield 11, 3) := by decide +kernel
theorem dT_cell_4 : decode bT_cell 4 = .ok (.iload_n 1, 1) := by decide +kernel
theorem dT_cell_5 : decode bT_cell 5 = .ok (.bipush 13, 2) := by decide +kernel
theorem dT_cell_7 : decode bT_cell 7 = .ok (.imul, 1) := by decide +kernel
theorem dT_cell_8 : decode bT_cell 8 = .ok (.iload_n 2, 1) := by decide +kernel
theorem dT_cell_9 : decode bT_cell 9 = .ok (.iadd, 1) := by decide +kernel
theorem dT_cell_10 : decode bT_cell 10 = .ok (.laload, 1) := by decide +kernel
theorem dT_cell_11 : decode bT_cell 11 = .ok (.lreturn, 1) := by decide +kernel
theorem dT_setCell_0 : decode bT_setCell 0 = .ok (.aload_n 0, 1) := by decide +kernel
theorem dT_setCell_1 : decode bT_setCell 1 = .ok (.getfield 11, 3) := by decide +kernel
theorem dT_setCell_4 : decode bT_setCell 4 = .ok (.iload_n 1, 1) := by decide +kernel
theorem dT_setCell_5 : decode bT_setCell 5 = .ok (.bipush 13, 2) := by decide +kernel
theorem dT_setCell_7 : decode bT_setCell 7 = .ok (.imul, 1) := by decide +kernel
theorem dT_setCell_8 : decode bT_setCell 8 = .ok (.iload_n 2, 1) := by decide +kernel
theorem dT_setCell_9 : decode bT_setCell 9 = .ok (.iadd, 1) := by decide +kernel
theorem dT_setCell_10 : decode bT_setCell 10 = .ok (.lload_n 3, 1) := by decide +kernel
theorem dT_setCell_11 : decode bT_setCell 11 = .ok (.lastore, 1) := by decide +kernel
theorem dT_setCell_12 : decode bT_setCell 12 = .ok (.return_, 1) := by decide +kernel
theorem dT_fits_0 : decode bT_fits 0 = .ok (.lload_n 0, 1) := by decide +kernel
theorem dT_fits_1 : decode bT_fits 1 = .ok (.ldc2_w 39, 3) := by decide +kernel
theorem dT_fits_4 : decode bT_fits 4 = .ok (.lcmp, 1) := by decide +kernel
theorem dT_fits_5 : decode bT_fits 5 = .ok (.ifCond .lt 15, 3) := by decide +kernel
theorem dT_fits_8 : decode bT_fits 8 = .ok (.lload_n 0, 1) := by decide +kernel
theorem dT_fits_9 : decode bT_fits 9 = .ok (.ldc2_w 41, 3) := by decide +kernel
theorem dT_fits_12 : decode bT_fits 12 = .ok (.lcmp, 1) := by decide +kernel
theorem dT_fits_13 : decode bT_fits 13 = .ok (.ifCond .gt 7, 3) := by decide +kernel
theorem dT_fits_16 : decode bT_fits 16 = .ok (.iconst 1, 1) := by decide +kernel
theorem dT_fits_17 : decode bT_fits 17 = .ok (.goto 4, 3) := by decide +kernel
theorem dT_fits_20 : decode bT_fits 20 = .ok (.iconst 0, 1) := by decide +kernel
theorem dT_fits_21 : decode bT_fits 21 = .ok (.ireturn, 1) := by decide +kernel
theorem dT_addColumn_0 : decode bT_addColumn 0 = .ok (.aload_n 0, 1) := by decide +kernel
theorem dT_addColumn_1 : decode bT_addColumn 1 = .ok (.getfield 28, 3) := by decide +kernel
theorem dT_addColumn_4 : decode bT_addColumn 4 = .ok (.istore_n 3, 1) := by decide +kernel
theorem dT_addColumn_5 : decode bT_addColumn 5 = .ok (.aload_n 0, 1) := by decide +kernel
theorem dT_addColumn_6 : decode bT_addColumn 6 = .ok (.dup, 1) := by decide +kernel
theorem dT_addColumn_7 : decode bT_addColumn 7 = .ok (.getfield 28, 3) := by decide +kernel
theorem dT_addColumn_10 : decode bT_addColumn 10 = .ok (.iconst 1, 1) := by decide +kernel
theorem dT_addColumn_11 : decode bT_addColumn 11 = .ok (.iadd, 1) := by decide +kernel
theorem dT_addColumn_12 : decode bT_addColumn 12 = .ok (.putfield 28, 3) := by decide +kernel
theorem dT_addColumn_15 : decode bT_addColumn 15 = .ok (.aload_n 0, 1) := by decide +kernel
theorem dT_addColumn_16 : decode bT_addColumn 16 = .ok (.getfield 19, 3) := by decide +kernel
theorem dT_addColumn_19 : decode bT_addColumn 19 = .ok (.aload_n 0, 1) := by decide +kernel
theorem dT_addColumn_20 : decode bT_addColumn 20 = .ok (.getfield 28, 3) := by decide +kernel
theorem dT_addColumn_23 : decode bT_addColumn 23 = .ok (.iload_n 3, 1) := by decide +kernel
theorem dT_addColumn_24 : decode bT_addColumn 24 = .ok (.iastore, 1) := by decide +kernel
theorem dT_addColumn_25 : decode bT_addColumn 25 = .ok (.aload_n 0, 1) := by decide +kernel
theorem dT_addColumn_26 : decode bT_addColumn 26 = .ok (.iconst 0, 1) := by decide +kernel
theorem dT_addColumn_27 : decode bT_addColumn 27 = .ok (.aload_n 0, 1) := by decide +kernel
theorem dT_addColumn_28 : decode bT_addColumn 28 = .ok (.getfield 28, 3) := by decide +kernel
theorem dT_addColumn_31 : decode bT_addColumn 31 = .ok (.lload_n 1, 1) := by decide +kernel
theorem dT_addColumn_32 : decode bT_addColumn 32 = .ok (.invokevirtual 43, 3) := by decide +kernel
theorem dT_addColumn_35 : decode bT_addColumn 35 = .ok (.iload_n 3, 1) := by decide +kernel
theorem dT_addColumn_36 : decode bT_addColumn 36 = .ok (.ireturn, 1) := by decide +kernel
theorem dT_placeInside_0 : decode bT_placeInside 0 = .ok (.iconst 1, 1) := by decide +kernel
theorem dT_placeInside_1 : decode bT_placeInside 1 = .ok (.istore_n 2, 1) := by decide +kernel
theorem dT_placeInside_2 : decode bT_placeInside 2 = .ok (.iload_n 2, 1) := by decide +kernel
theorem dT_placeInside_3 : decode bT_placeInside 3 = .ok (.aload_n 0, 1) := by decide +kernel
theorem dT_placeInside_4 : decode bT_placeInside 4 = .ok (.getfield 32, 3) := by decide +kernel
theorem dT_placeInside_7 : decode bT_placeInside 7 = .ok (.if_icmp .gt 21, 3) := by decide +kernel
theorem dT_placeInside_10 : decode bT_placeInside 10 = .ok (.aload_n 0, 1) := by decide +kernel
theorem dT_placeInside_11 : decode bT_placeInside 11 = .ok (.getfield 15, 3) := by decide +kernel
theorem dT_placeInside_14 : decode bT_placeInside 14 = .ok (.iload_n 2, 1) := by decide +kernel
theorem dT_placeInside_15 : decode bT_placeInside 15 = .ok (.iaload, 1) := by decide +kernel
theorem dT_placeInside_16 : decode bT_placeInside 16 = .ok (.iload_n 1, 1) := by decide +kernel
theorem dT_placeInside_17 : decode bT_placeInside 17 = .ok (.if_icmp .ne 5, 3) := by decide +kernel
theorem dT_placeInside_20 : decode bT_placeInside 20 = .ok (.iload_n 2, 1) := by decide +kernel
theorem dT_placeInside_21 : decode bT_placeInside 21 = .ok (.ireturn, 1) := by decide +kernel
theorem dT_placeInside_22 : decode bT_placeInside 22 = .ok (.iinc 2 1, 3) := by decide +kernel
theorem dT_placeInside_25 : decode bT_placeInside 25 = .ok (.goto (-23), 3) := by decide +kernel
theorem dT_placeInside_28 : decode bT_placeInside 28 = .ok (.iconst (-1), 1) := by decide +kernel
theorem dT_placeInside_29 : decode bT_placeInside 29 = .ok (.ireturn, 1) := by decide +kernel
theorem dT_placeOutside_0 : decode bT_placeOutside 0 = .ok (.iconst 1, 1) := by decide +kernel
theorem dT_placeOutside_1 : decode bT_placeOutside 1 = .ok (.istore_n 2, 1) := by decide +kernel
theorem dT_placeOutside_2 : decode bT_placeOutside 2 = .ok (.iload_n 2, 1) := by decide +kernel
theorem dT_placeOutside_3 : decode bT_placeOutside 3 = .ok (.aload_n 0, 1) := by decide +kernel
theorem dT_placeOutside_4 : decode bT_placeOutside 4 = .ok (.getfield 28, 3) := by decide +kernel
theorem dT_placeOutside_7 : decode bT_placeOutside 7 = .ok (.if_icmp .gt 21, 3) := by decide +kernel
theorem dT_placeOutside_10 : decode bT_placeOutside 10 = .ok (.aload_n 0, 1) := by decide +kernel
theorem dT_placeOutside_11 : decode bT_placeOutside 11 = .ok (.getfield 19, 3) := by decide +kernel
theorem dT_placeOutside_14 : decode bT_placeOutside 14 = .ok (.iload_n 2, 1) := by decide +kernel
theorem dT_placeOutside_15 : decode bT_placeOutside 15 = .ok (.iaload, 1) := by decide +kernel
theorem dT_placeOutside_16 : decode bT_placeOutside 16 = .ok (.iload_n 1, 1) := by decide +kernel
theorem dT_placeOutside_17 : decode bT_placeOutside 17 = .ok (.if_icmp .ne 5, 3) := by decide +kernel
theorem dT_placeOutside_20 : decode bT_placeOutside 20 = .ok (.iload_n 2, 1) := by decide +kernel
theorem dT_placeOutside_21 : decode bT_placeOutside 21 = .ok (.ireturn, 1) := by decide +kernel
theorem dT_placeOutside_22 : decode bT_placeOutside 22 = .ok (.iinc 2 1, 3) := by decide +kernel
theorem dT_placeOutside_25 : decode bT_placeOutside 25 = .ok (.goto (-23), 3) := by decide +kernel
theorem dT_placeOutside_28 : decode bT_placeOutside 28 = .ok (.iconst (-1), 1) := by decide +kernel
theorem dT_placeOutside_29 : decode bT_placeOutside 29 = .ok (.ireturn, 1) := by decide +kernel
theorem dT_startOf_0 : decode bT_startOf 0 = .ok (.aload_n 0, 1) := by decide +kernel
theorem dT_startOf_1 : decode bT_startOf 1 = .ok (.iload_n 1, 1) := by decide +kernel
theorem dT_startOf_2 : decode bT_startOf 2 = .ok (.invokevirtual 47, 3) := by decide +kernel
theorem dT_startOf_5 : decode bT_startOf 5 = .ok (.istore_n 2, 1) := by decide +kernel
theorem dT_startOf_6 : decode bT_startOf 6 = .ok (.iload_n 2, 1) := by decide +kernel
theorem dT_startOf_7 : decode bT_startOf 7 = .ok (.iconst (-1), 1) := by decide +kernel
theorem dT_startOf_8 : decode bT_startOf 8 = .ok (.if_icmp .ne 7, 3) := by decide +kernel
theorem dT_startOf_11 : decode bT_startOf 11 = .ok (.lconst 0, 1) := by decide +kernel
theorem dT_startOf_12 : decode bT_startOf 12 = .ok (.goto 9, 3) := by decide +kernel
theorem dT_startOf_15 : decode bT_startOf 15 = .ok (.aload_n 0, 1) := by decide +kernel
theorem dT_startOf_16 : decode bT_startOf 16 = .ok (.iload_n 2, 1) := by decide +kernel
theorem dT_startOf_17 : decode bT_startOf 17 = .ok (.iconst 0, 1) := by decide +kernel
theorem dT_startOf_18 : decode bT_startOf 18 = .ok (.invokevirtual 51, 3) := by decide +kernel
theorem dT_startOf_21 : decode bT_startOf 21 = .ok (.lreturn, 1) := by decide +kernel
theorem dT_numberBy_0 : decode bT_numberBy 0 = .ok (.aload_n 0, 1) := by decide +kernel
theorem dT_numberBy_1 : decode bT_numberBy 1 = .ok (.iload_n 2, 1) := by decide +kernel
theorem dT_numberBy_2 : decode bT_numberBy 2 = .ok (.invokevirtual 55, 3) := by decide +kernel
theorem dT_numberBy_5 : decode bT_numberBy 5 = .ok (.istore_n 3, 1) := by decide +kernel
theorem dT_numberBy_6 : decode bT_numberBy 6 = .ok (.iload_n 3, 1) := by decide +kernel
theorem dT_numberBy_7 : decode bT_numberBy 7 = .ok (.iconst (-1), 1) := by decide +kernel
theorem dT_numberBy_8 : decode bT_numberBy 8 = .ok (.if_icmp .ne 7, 3) := by decide +kernel
theorem dT_numberBy_11 : decode bT_numberBy 11 = .ok (.lconst 0, 1) := by decide +kernel
theorem dT_numberBy_12 : decode bT_numberBy 12 = .ok (.goto 9, 3) := by decide +kernel
theorem dT_numberBy_15 : decode bT_numberBy 15 = .ok (.aload_n 0, 1) := by decide +kernel
theorem dT_numberBy_16 : decode bT_numberBy 16 = .ok (.iload_n 1, 1) := by decide +kernel
theorem dT_numberBy_17 : decode bT_numberBy 17 = .ok (.iload_n 3, 1) := by decide +kernel
theorem dT_numberBy_18 : decode bT_numberBy 18 = .ok (.invokevirtual 51, 3) := by decide +kernel
theorem dT_numberBy_21 : decode bT_numberBy 21 = .ok (.lreturn, 1) := by decide +kernel
theorem dT_sumOfStarts_0 : decode bT_sumOfStarts 0 = .ok (.lconst 0, 1) := by decide +kernel
theorem dT_sumOfStarts_1 : decode bT_sumOfStarts 1 = .ok (.lstore_n 3, 1) := by decide +kernel
theorem dT_sumOfStarts_2 : decode bT_sumOfStarts 2 = .ok (.iconst 0, 1) := by decide +kernel
theorem dT_sumOfStarts_3 : decode bT_sumOfStarts 3 = .ok (.istore 5, 2) := by decide +kernel
theorem dT_sumOfStarts_5 : decode bT_sumOfStarts 5 = .ok (.iload 5, 2) := by decide +kernel
theorem dT_sumOfStarts_7 : decode bT_sumOfStarts 7 = .ok (.aload_n 0, 1) := by decide +kernel
theorem dT_sumOfStarts_8 : decode bT_sumOfStarts 8 = .ok (.getfield 28, 3) := by decide +kernel
theorem dT_sumOfStarts_11 : decode bT_sumOfStarts 11 = .ok (.if_icmp .ge 26, 3) := by decide +kernel
theorem dT_sumOfStarts_14 : decode bT_sumOfStarts 14 = .ok (.lload_n 3, 1) := by decide +kernel
theorem dT_sumOfStarts_15 : decode bT_sumOfStarts 15 = .ok (.aload_n 1, 1) := by decide +kernel
theorem dT_sumOfStarts_16 : decode bT_sumOfStarts 16 = .ok (.iload_n 2, 1) := by decide +kernel
theorem dT_sumOfStarts_17 : decode bT_sumOfStarts 17 = .ok (.iload 5, 2) := by decide +kernel
theorem dT_sumOfStarts_19 : decode bT_sumOfStarts 19 = .ok (.iadd, 1) := by decide +kernel
theorem dT_sumOfStarts_20 : decode bT_sumOfStarts 20 = .ok (.iaload, 1) := by decide +kernel
theorem dT_sumOfStarts_21 : decode bT_sumOfStarts 21 = .ok (.i2l, 1) := by decide +kernel
theorem dT_sumOfStarts_22 : decode bT_sumOfStarts 22 = .ok (.aload_n 0, 1) := by decide +kernel
theorem dT_sumOfStarts_23 : decode bT_sumOfStarts 23 = .ok (.iload 5, 2) := by decide +kernel
theorem dT_sumOfStarts_25 : decode bT_sumOfStarts 25 = .ok (.invokevirtual 58, 3) := by decide +kernel
theorem dT_sumOfStarts_28 : decode bT_sumOfStarts 28 = .ok (.lmul, 1) := by decide +kernel
theorem dT_sumOfStarts_29 : decode bT_sumOfStarts 29 = .ok (.ladd, 1) := by decide +kernel
theorem dT_sumOfStarts_30 : decode bT_sumOfStarts 30 = .ok (.lstore_n 3, 1) := by decide +kernel
theorem dT_sumOfStarts_31 : decode bT_sumOfStarts 31 = .ok (.iinc 5 1, 3) := by decide +kernel
theorem dT_sumOfStarts_34 : decode bT_sumOfStarts 34 = .ok (.goto (-29), 3) := by decide +kernel
theorem dT_sumOfStarts_37 : decode bT_sumOfStarts 37 = .ok (.lload_n 3, 1) := by decide +kernel
theorem dT_sumOfStarts_38 : decode bT_sumOfStarts 38 = .ok (.lreturn, 1) := by decide +kernel
theorem dT_tell_0 : decode bT_tell 0 = .ok (.aload_n 0, 1) := by decide +kernel
theorem dT_tell_1 : decode bT_tell 1 = .ok (.getfield 22, 3) := by decide +kernel
theorem dT_tell_4 : decode bT_tell 4 = .ok (.lconst 0, 1) := by decide +kernel
theorem dT_tell_5 : decode bT_tell 5 = .ok (.invokestatic 62, 3) := by decide +kernel
theorem dT_tell_8 : decode bT_tell 8 = .ok (.iconst 0, 1) := by decide +kernel
theorem dT_tell_9 : decode bT_tell 9 = .ok (.istore 5, 2) := by decide +kernel
theorem dT_tell_11 : decode bT_tell 11 = .ok (.iload 5, 2) := by decide +kernel
theorem dT_tell_13 : decode bT_tell 13 = .ok (.aload_n 0, 1) := by decide +kernel
theorem dT_tell_14 : decode bT_tell 14 = .ok (.getfield 28, 3) := by decide +kernel
theorem dT_tell_17 : decode bT_tell 17 = .ok (.if_icmp .ge 22, 3) := by decide +kernel
theorem dT_tell_20 : decode bT_tell 20 = .ok (.aload_n 0, 1) := by decide +kernel
theorem dT_tell_21 : decode bT_tell 21 = .ok (.iload 5, 2) := by decide +kernel
theorem dT_tell_23 : decode bT_tell 23 = .ok (.aload_n 1, 1) := by decide +kernel
theorem dT_tell_24 : decode bT_tell 24 = .ok (.iload_n 2, 1) := by decide +kernel
theorem dT_tell_25 : decode bT_tell 25 = .ok (.iload 5, 2) := by decide +kernel
theorem dT_tell_27 : decode bT_tell 27 = .ok (.iadd, 1) := by decide +kernel
theorem dT_tell_28 : decode bT_tell 28 = .ok (.iaload, 1) := by decide +kernel
theorem dT_tell_29 : decode bT_tell 29 = .ok (.i2l, 1) := by decide +kernel
theorem dT_tell_30 : decode bT_tell 30 = .ok (.invokevirtual 68, 3) := by decide +kernel
theorem dT_tell_33 : decode bT_tell 33 = .ok (.iinc 5 1, 3) := by decide +kernel
theorem dT_tell_36 : decode bT_tell 36 = .ok (.goto (-25), 3) := by decide +kernel
theorem dT_tell_39 : decode bT_tell 39 = .ok (.aload_n 0, 1) := by decide +kernel
theorem dT_tell_40 : decode bT_tell 40 = .ok (.getfield 22, 3) := by decide +kernel
theorem dT_tell_43 : decode bT_tell 43 = .ok (.iconst 0, 1) := by decide +kernel
theorem dT_tell_44 : decode bT_tell 44 = .ok (.dup2, 1) := by decide +kernel
theorem dT_tell_45 : decode bT_tell 45 = .ok (.laload, 1) := by decide +kernel
theorem dT_tell_46 : decode bT_tell 46 = .ok (.aload_n 0, 1) := by decide +kernel
theorem dT_tell_47 : decode bT_tell 47 = .ok (.getfield 35, 3) := by decide +kernel
theorem dT_tell_50 : decode bT_tell 50 = .ok (.lload_n 3, 1) := by decide +kernel
theorem dT_tell_51 : decode bT_tell 51 = .ok (.lmul, 1) := by decide +kernel
theorem dT_tell_52 : decode bT_tell 52 = .ok (.lsub, 1) := by decide +kernel
theorem dT_tell_53 : decode bT_tell 53 = .ok (.lastore, 1) := by decide +kernel
theorem dT_tell_54 : decode bT_tell 54 = .ok (.return_, 1) := by decide +kernel
theorem dT_tellColumn_0 : decode bT_tellColumn 0 = .ok (.aload_n 0, 1) := by decide +kernel
theorem dT_tellColumn_1 : decode bT_tellColumn 1 = .ok (.iload_n 1, 1) := by decide +kernel
theorem dT_tellColumn_2 : decode bT_tellColumn 2 = .ok (.invokevirtual 55, 3) := by decide +kernel
theorem dT_tellColumn_5 : decode bT_tellColumn 5 = .ok (.istore 4, 2) := by decide +kernel
theorem dT_tellColumn_7 : decode bT_tellColumn 7 = .ok (.iload 4, 2) := by decide +kernel
theorem dT_tellColumn_9 : decode bT_tellColumn 9 = .ok (.iconst (-1), 1) := by decide +kernel
theorem dT_tellColumn_10 : decode bT_tellColumn 10 = .ok (.if_icmp .eq 20, 3) := by decide +kernel
theorem dT_tellColumn_13 : decode bT_tellColumn 13 = .ok (.aload_n 0, 1) := by decide +kernel
theorem dT_tellColumn_14 : decode bT_tellColumn 14 = .ok (.getfield 22, 3) := by decide +kernel
theorem dT_tellColumn_17 : decode bT_tellColumn 17 = .ok (.iload 4, 2) := by decide +kernel
theorem dT_tellColumn_19 : decode bT_tellColumn 19 = .ok (.dup2, 1) := by decide +kernel
theorem dT_tellColumn_20 : decode bT_tellColumn 20 = .ok (.laload, 1) := by decide +kernel
theorem dT_tellColumn_21 : decode bT_tellColumn 21 = .ok (.lload_n 2, 1) := by decide +kernel
theorem dT_tellColumn_22 : decode bT_tellColumn 22 = .ok (.aload_n 0, 1) := by decide +kernel
theorem dT_tellColumn_23 : decode bT_tellColumn 23 = .ok (.getfield 35, 3) := by decide +kernel
theorem dT_tellColumn_26 : decode bT_tellColumn 26 = .ok (.lmul, 1) := by decide +kernel
theorem dT_tellColumn_27 : decode bT_tellColumn 27 = .ok (.ladd, 1) := by decide +kernel
theorem dT_tellColumn_28 : decode bT_tellColumn 28 = .ok (.lastore, 1) := by decide +kernel
theorem dT_tellColumn_29 : decode bT_tellColumn 29 = .ok (.return_, 1) := by decide +kernel
theorem dT_tellColumn_30 : decode bT_tellColumn 30 = .ok (.aload_n 0, 1) := by decide +kernel
theorem dT_tellColumn_31 : decode bT_tellColumn 31 = .ok (.iload_n 1, 1) := by decide +kernel
theorem dT_tellColumn_32 : decode bT_tellColumn 32 = .ok (.invokevirtual 47, 3) := by decide +kernel
theorem dT_tellColumn_35 : decode bT_tellColumn 35 = .ok (.istore 5, 2) := by decide +kernel
theorem dT_tellColumn_37 : decode bT_tellColumn 37 = .ok (.iconst 0, 1) := by decide +kernel
theorem dT_tellColumn_38 : decode bT_tellColumn 38 = .ok (.istore 6, 2) := by decide +kernel
theorem dT_tellColumn_40 : decode bT_tellColumn 40 = .ok (.iload 5, 2) := by decide +kernel
theorem dT_tellColumn_42 : decode bT_tellColumn 42 = .ok (.iconst (-1), 1) := by decide +kernel
theorem dT_tellColumn_43 : decode bT_tellColumn 43 = .ok (.if_icmp .eq 38, 3) := by decide +kernel
theorem dT_tellColumn_46 : decode bT_tellColumn 46 = .ok (.iload 6, 2) := by decide +kernel
theorem dT_tellColumn_48 : decode bT_tellColumn 48 = .ok (.aload_n 0, 1) := by decide +kernel
theorem dT_tellColumn_49 : decode bT_tellColumn 49 = .ok (.getfield 28, 3) := by decide +kernel
theorem dT_tellColumn_52 : decode bT_tellColumn 52 = .ok (.if_icmp .gt 29, 3) := by decide +kernel
theorem dT_tellColumn_55 : decode bT_tellColumn 55 = .ok (.aload_n 0, 1) := by decide +kernel
theorem dT_tellColumn_56 : decode bT_tellColumn 56 = .ok (.getfield 22, 3) := by decide +kernel
theorem dT_tellColumn_59 : decode bT_tellColumn 59 = .ok (.iload 6, 2) := by decide +kernel
theorem dT_tellColumn_61 : decode bT_tellColumn 61 = .ok (.dup2, 1) := by decide +kernel
theorem dT_tellColumn_62 : decode bT_tellColumn 62 = .ok (.laload, 1) := by decide +kernel
theorem dT_tellColumn_63 : decode bT_tellColumn 63 = .ok (.lload_n 2, 1) := by decide +kernel
theorem dT_tellColumn_64 : decode bT_tellColumn 64 = .ok (.aload_n 0, 1) := by decide +kernel
theorem dT_tellColumn_65 : decode bT_tellColumn 65 = .ok (.iload 5, 2) := by decide +kernel
theorem dT_tellColumn_67 : decode bT_tellColumn 67 = .ok (.iload 6, 2) := by decide +kernel
theorem dT_tellColumn_69 : decode bT_tellColumn 69 = .ok (.invokevirtual 51, 3) := by decide +kernel
theorem dT_tellColumn_72 : decode bT_tellColumn 72 = .ok (.lmul, 1) := by decide +kernel
theorem dT_tellColumn_73 : decode bT_tellColumn 73 = .ok (.ladd, 1) := by decide +kernel
theorem dT_tellColumn_74 : decode bT_tellColumn 74 = .ok (.lastore, 1) := by decide +kernel
theorem dT_tellColumn_75 : decode bT_tellColumn 75 = .ok (.iinc 6 1, 3) := by decide +kernel
theorem dT_tellColumn_78 : decode bT_tellColumn 78 = .ok (.goto (-38), 3) := by decide +kernel
theorem dT_tellColumn_81 : decode bT_tellColumn 81 = .ok (.return_, 1) := by decide +kernel
theorem dT_toldFits_0 : decode bT_toldFits 0 = .ok (.iconst 0, 1) := by decide +kernel
theorem dT_toldFits_1 : decode bT_toldFits 1 = .ok (.istore_n 1, 1) := by decide +kernel
theorem dT_toldFits_2 : decode bT_toldFits 2 = .ok (.iload_n 1, 1) := by decide +kernel
theorem dT_toldFits_3 : decode bT_toldFits 3 = .ok (.aload_n 0, 1) := by decide +kernel
theorem dT_toldFits_4 : decode bT_toldFits 4 = .ok (.getfield 28, 3) := by decide +kernel
theorem dT_toldFits_7 : decode bT_toldFits 7 = .ok (.if_icmp .gt 23, 3) := by decide +kernel
theorem dT_toldFits_10 : decode bT_toldFits 10 = .ok (.aload_n 0, 1) := by decide +kernel
theorem dT_toldFits_11 : decode bT_toldFits 11 = .ok (.getfield 22, 3) := by decide +kernel
theorem dT_toldFits_14 : decode bT_toldFits 14 = .ok (.iload_n 1, 1) := by decide +kernel
theorem dT_toldFits_15 : decode bT_toldFits 15 = .ok (.laload, 1) := by decide +kernel
theorem dT_toldFits_16 : decode bT_toldFits 16 = .ok (.invokestatic 72, 3) := by decide +kernel
theorem dT_toldFits_19 : decode bT_toldFits 19 = .ok (.ifCond .ne 5, 3) := by decide +kernel
theorem dT_toldFits_22 : decode bT_toldFits 22 = .ok (.iconst 0, 1) := by decide +kernel
theorem dT_toldFits_23 : decode bT_toldFits 23 = .ok (.ireturn, 1) := by decide +kernel
theorem dT_toldFits_24 : decode bT_toldFits 24 = .ok (.iinc 1 1, 3) := by decide +kernel
theorem dT_toldFits_27 : decode bT_toldFits 27 = .ok (.goto (-25), 3) := by decide +kernel
theorem dT_toldFits_30 : decode bT_toldFits 30 = .ok (.iconst 1, 1) := by decide +kernel
theorem dT_toldFits_31 : decode bT_toldFits 31 = .ok (.ireturn, 1) := by decide +kernel
theorem dT_bringTold_0 : decode bT_bringTold 0 = .ok (.aload_n 0, 1) := by decide +kernel
theorem dT_bringTold_1 : decode bT_bringTold 1 = .ok (.getfield 32, 3) := by decide +kernel
theorem dT_bringTold_4 : decode bT_bringTold 4 = .ok (.bipush 24, 2) := by decide +kernel
theorem dT_bringTold_6 : decode bT_bringTold 6 = .ok (.if_icmp .lt 4, 3) := by decide +kernel
theorem dT_bringTold_9 : decode bT_bringTold 9 = .ok (.return_, 1) := by decide +kernel
theorem dT_bringTold_10 : decode bT_bringTold 10 = .ok (.aload_n 0, 1) := by decide +kernel
theorem dT_bringTold_11 : decode bT_bringTold 11 = .ok (.getfield 28, 3) := by decide +kernel
theorem dT_bringTold_14 : decode bT_bringTold 14 = .ok (.aload_n 0, 1) := by decide +kernel
theorem dT_bringTold_15 : decode bT_bringTold 15 = .ok (.getfield 32, 3) := by decide +kernel
theorem dT_bringTold_18 : decode bT_bringTold 18 = .ok (.iadd, 1) := by decide +kernel
theorem dT_bringTold_19 : decode bT_bringTold 19 = .ok (.istore_n 2, 1) := by decide +kernel
theorem dT_bringTold_20 : decode bT_bringTold 20 = .ok (.aload_n 0, 1) := by decide +kernel
theorem dT_bringTold_21 : decode bT_bringTold 21 = .ok (.dup, 1) := by decide +kernel
theorem dT_bringTold_22 : decode bT_bringTold 22 = .ok (.getfield 32, 3) := by decide +kernel
theorem dT_bringTold_25 : decode bT_bringTold 25 = .ok (.iconst 1, 1) := by decide +kernel
theorem dT_bringTold_26 : decode bT_bringTold 26 = .ok (.iadd, 1) := by decide +kernel
theorem dT_bringTold_27 : decode bT_bringTold 27 = .ok (.putfield 32, 3) := by decide +kernel
theorem dT_bringTold_30 : decode bT_bringTold 30 = .ok (.aload_n 0, 1) := by decide +kernel
theorem dT_bringTold_31 : decode bT_bringTold 31 = .ok (.getfield 15, 3) := by decide +kernel
theorem dT_bringTold_34 : decode bT_bringTold 34 = .ok (.aload_n 0, 1) := by decide +kernel
theorem dT_bringTold_35 : decode bT_bringTold 35 = .ok (.getfield 32, 3) := by decide +kernel
theorem dT_bringTold_38 : decode bT_bringTold 38 = .ok (.iload_n 2, 1) := by decide +kernel
theorem dT_bringTold_39 : decode bT_bringTold 39 = .ok (.iastore, 1) := by decide +kernel
theorem dT_bringTold_40 : decode bT_bringTold 40 = .ok (.iconst 0, 1) := by decide +kernel
theorem dT_bringTold_41 : decode bT_bringTold 41 = .ok (.istore_n 3, 1) := by decide +kernel
theorem dT_bringTold_42 : decode bT_bringTold 42 = .ok (.iload_n 3, 1) := by decide +kernel
theorem dT_bringTold_43 : decode bT_bringTold 43 = .ok (.aload_n 0, 1) := by decide +kernel
theorem dT_bringTold_44 : decode bT_bringTold 44 = .ok (.getfield 28, 3) := by decide +kernel
theorem dT_bringTold_47 : decode bT_bringTold 47 = .ok (.if_icmp .gt 27, 3) := by decide +kernel
theorem dT_bringTold_50 : decode bT_bringTold 50 = .ok (.aload_n 0, 1) := by decide +kernel
theorem dT_bringTold_51 : decode bT_bringTold 51 = .ok (.aload_n 0, 1) := by decide +kernel
theorem dT_bringTold_52 : decode bT_bringTold 52 = .ok (.getfield 32, 3) := by decide +kernel
theorem dT_bringTold_55 : decode bT_bringTold 55 = .ok (.iload_n 3, 1) := by decide +kernel
theorem dT_bringTold_56 : decode bT_bringTold 56 = .ok (.iload_n 1, 1) := by decide +kernel
theorem dT_bringTold_57 : decode bT_bringTold 57 = .ok (.i2l, 1) := by decide +kernel
theorem dT_bringTold_58 : decode bT_bringTold 58 = .ok (.aload_n 0, 1) := by decide +kernel
theorem dT_bringTold_59 : decode bT_bringTold 59 = .ok (.getfield 22, 3) := by decide +kernel
theorem dT_bringTold_62 : decode bT_bringTold 62 = .ok (.iload_n 3, 1) := by decide +kernel
theorem dT_bringTold_63 : decode bT_bringTold 63 = .ok (.laload, 1) := by decide +kernel
theorem dT_bringTold_64 : decode bT_bringTold 64 = .ok (.lmul, 1) := by decide +kernel
theorem dT_bringTold_65 : decode bT_bringTold 65 = .ok (.invokevirtual 43, 3) := by decide +kernel
theorem dT_bringTold_68 : decode bT_bringTold 68 = .ok (.iinc 3 1, 3) := by decide +kernel
theorem dT_bringTold_71 : decode bT_bringTold 71 = .ok (.goto (-29), 3) := by decide +kernel
theorem dT_bringTold_74 : decode bT_bringTold 74 = .ok (.return_, 1) := by decide +kernel
theorem dT_leavingPlace_0 : decode bT_leavingPlace 0 = .ok (.iconst (-1), 1) := by decide +kernel
theorem dT_leavingPlace_1 : decode bT_leavingPlace 1 = .ok (.istore_n 1, 1) := by decide +kernel
theorem dT_leavingPlace_2 : decode bT_leavingPlace 2 = .ok (.iconst 1, 1) := by decide +kernel
theorem dT_leavingPlace_3 : decode bT_leavingPlace 3 = .ok (.istore_n 2, 1) := by decide +kernel
theorem dT_leavingPlace_4 : decode bT_leavingPlace 4 = .ok (.iload_n 2, 1) := by decide +kernel
theorem dT_leavingPlace_5 : decode bT_leavingPlace 5 = .ok (.aload_n 0, 1) := by decide +kernel
theorem dT_leavingPlace_6 : decode bT_leavingPlace 6 = .ok (.getfield 32, 3) := by decide +kernel
theorem dT_leavingPlace_9 : decode bT_leavingPlace 9 = .ok (.if_icmp .gt 42, 3) := by decide +kernel
theorem dT_leavingPlace_12 : decode bT_leavingPlace 12 = .ok (.aload_n 0, 1) := by decide +kernel
theorem dT_leavingPlace_13 : decode bT_leavingPlace 13 = .ok (.iload_n 2, 1) := by decide +kernel
theorem dT_leavingPlace_14 : decode bT_leavingPlace 14 = .ok (.iconst 0, 1) := by decide +kernel
theorem dT_leavingPlace_15 : decode bT_leavingPlace 15 = .ok (.invokevirtual 51, 3) := by decide +kernel
theorem dT_leavingPlace_18 : decode bT_leavingPlace 18 = .ok (.lconst 0, 1) := by decide +kernel
theorem dT_leavingPlace_19 : decode bT_leavingPlace 19 = .ok (.lcmp, 1) := by decide +kernel
theorem dT_leavingPlace_20 : decode bT_leavingPlace 20 = .ok (.ifCond .ge 25, 3) := by decide +kernel
theorem dT_leavingPlace_23 : decode bT_leavingPlace 23 = .ok (.iload_n 1, 1) := by decide +kernel
theorem dT_leavingPlace_24 : decode bT_leavingPlace 24 = .ok (.iconst (-1), 1) := by decide +kernel
theorem dT_leavingPlace_25 : decode bT_leavingPlace 25 = .ok (.if_icmp .eq 18, 3) := by decide +kernel
theorem dT_leavingPlace_28 : decode bT_leavingPlace 28 = .ok (.aload_n 0, 1) := by decide +kernel
theorem dT_leavingPlace_29 : decode bT_leavingPlace 29 = .ok (.getfield 15, 3) := by decide +kernel
theorem dT_leavingPlace_32 : decode bT_leavingPlace 32 = .ok (.iload_n 2, 1) := by decide +kernel
theorem dT_leavingPlace_33 : decode bT_leavingPlace 33 = .ok (.iaload, 1) := by decide +kernel
theorem dT_leavingPlace_34 : decode bT_leavingPlace 34 = .ok (.aload_n 0, 1) := by decide +kernel
theorem dT_leavingPlace_35 : decode bT_leavingPlace 35 = .ok (.getfield 15, 3) := by decide +kernel
theorem dT_leavingPlace_38 : decode bT_leavingPlace 38 = .ok (.iload_n 1, 1) := by decide +kernel
theorem dT_leavingPlace_39 : decode bT_leavingPlace 39 = .ok (.iaload, 1) := by decide +kernel
theorem dT_leavingPlace_40 : decode bT_leavingPlace 40 = .ok (.if_icmp .ge 5, 3) := by decide +kernel
theorem dT_leavingPlace_43 : decode bT_leavingPlace 43 = .ok (.iload_n 2, 1) := by decide +kernel
theorem dT_leavingPlace_44 : decode bT_leavingPlace 44 = .ok (.istore_n 1, 1) := by decide +kernel
theorem dT_leavingPlace_45 : decode bT_leavingPlace 45 = .ok (.iinc 2 1, 3) := by decide +kernel
theorem dT_leavingPlace_48 : decode bT_leavingPlace 48 = .ok (.goto (-44), 3) := by decide +kernel
theorem dT_leavingPlace_51 : decode bT_leavingPlace 51 = .ok (.iload_n 1, 1) := by decide +kernel
theorem dT_leavingPlace_52 : decode bT_leavingPlace 52 = .ok (.ireturn, 1) := by decide +kernel
theorem dT_enteringPlace_0 : decode bT_enteringPlace 0 = .ok (.iconst (-1), 1) := by decide +kernel
theorem dT_enteringPlace_1 : decode bT_enteringPlace 1 = .ok (.istore_n 2, 1) := by decide +kernel
theorem dT_enteringPlace_2 : decode bT_enteringPlace 2 = .ok (.iconst 1, 1) := by decide +kernel
theorem dT_enteringPlace_3 : decode bT_enteringPlace 3 = .ok (.istore_n 3, 1) := by decide +kernel
theorem dT_enteringPlace_4 : decode bT_enteringPlace 4 = .ok (.iload_n 3, 1) := by decide +kernel
theorem dT_enteringPlace_5 : decode bT_enteringPlace 5 = .ok (.aload_n 0, 1) := by decide +kernel
theorem dT_enteringPlace_6 : decode bT_enteringPlace 6 = .ok (.getfield 28, 3) := by decide +kernel
theorem dT_enteringPlace_9 : decode bT_enteringPlace 9 = .ok (.if_icmp .gt 37, 3) := by decide +kernel
theorem dT_enteringPlace_12 : decode bT_enteringPlace 12 = .ok (.aload_n 0, 1) := by decide +kernel
theorem dT_enteringPlace_13 : decode bT_enteringPlace 13 = .ok (.iload_n 1, 1) := by decide +kernel
theorem dT_enteringPlace_14 : decode bT_enteringPlace 14 = .ok (.iload_n 3, 1) := by decide +kernel
theorem dT_enteringPlace_15 : decode bT_enteringPlace 15 = .ok (.invokevirtual 51, 3) := by decide +kernel
theorem dT_enteringPlace_18 : decode bT_enteringPlace 18 = .ok (.lconst 0, 1) := by decide +kernel
theorem dT_enteringPlace_19 : decode bT_enteringPlace 19 = .ok (.lcmp, 1) := by decide +kernel
theorem dT_enteringPlace_20 : decode bT_enteringPlace 20 = .ok (.ifCond .le 20, 3) := by decide +kernel
theorem dT_enteringPlace_23 : decode bT_enteringPlace 23 = .ok (.iload_n 2, 1) := by decide +kernel
theorem dT_enteringPlace_24 : decode bT_enteringPlace 24 = .ok (.iconst (-1), 1) := by decide +kernel
theorem dT_enteringPlace_25 : decode bT_enteringPlace 25 = .ok (.if_icmp .eq 13, 3) := by decide +kernel
theorem dT_enteringPlace_28 : decode bT_enteringPlace 28 = .ok (.aload_n 0, 1) := by decide +kernel
theorem dT_enteringPlace_29 : decode bT_enteringPlace 29 = .ok (.iload_n 1, 1) := by decide +kernel
theorem dT_enteringPlace_30 : decode bT_enteringPlace 30 = .ok (.iload_n 3, 1) := by decide +kernel
theorem dT_enteringPlace_31 : decode bT_enteringPlace 31 = .ok (.iload_n 2, 1) := by decide +kernel
theorem dT_enteringPlace_32 : decode bT_enteringPlace 32 = .ok (.invokevirtual 76, 3) := by decide +kernel
theorem dT_enteringPlace_35 : decode bT_enteringPlace 35 = .ok (.ifCond .eq 5, 3) := by decide +kernel
theorem dT_enteringPlace_38 : decode bT_enteringPlace 38 = .ok (.iload_n 3, 1) := by decide +kernel
theorem dT_enteringPlace_39 : decode bT_enteringPlace 39 = .ok (.istore_n 2, 1) := by decide +kernel
theorem dT_enteringPlace_40 : decode bT_enteringPlace 40 = .ok (.iinc 3 1, 3) := by decide +kernel
theorem dT_enteringPlace_43 : decode bT_enteringPlace 43 = .ok (.goto (-39), 3) := by decide +kernel
theorem dT_enteringPlace_46 : decode bT_enteringPlace 46 = .ok (.iload_n 2, 1) := by decide +kernel
theorem dT_enteringPlace_47 : decode bT_enteringPlace 47 = .ok (.ireturn, 1) := by decide +kernel
theorem dT_entersBefore_0 : decode bT_entersBefore 0 = .ok (.aload_n 0, 1) := by decide +kernel
theorem dT_entersBefore_1 : decode bT_entersBefore 1 = .ok (.iconst 0, 1) := by decide +kernel
theorem dT_entersBefore_2 : decode bT_entersBefore 2 = .ok (.iload_n 2, 1) := by decide +kernel
theorem dT_entersBefore_3 : decode bT_entersBefore 3 = .ok (.invokevirtual 51, 3) := by decide +kernel
theorem dT_entersBefore_6 : decode bT_entersBefore 6 = .ok (.aload_n 0, 1) := by decide +kernel
theorem dT_entersBefore_7 : decode bT_entersBefore 7 = .ok (.iload_n 1, 1) := by decide +kernel
theorem dT_entersBefore_8 : decode bT_entersBefore 8 = .ok (.iload_n 3, 1) := by decide +kernel
theorem dT_entersBefore_9 : decode bT_entersBefore 9 = .ok (.invokevirtual 51, 3) := by decide +kernel
theorem dT_entersBefore_12 : decode bT_entersBefore 12 = .ok (.lmul, 1) := by decide +kernel
theorem dT_entersBefore_13 : decode bT_entersBefore 13 = .ok (.lstore 4, 2) := by decide +kernel
theorem dT_entersBefore_15 : decode bT_entersBefore 15 = .ok (.aload_n 0, 1) := by decide +kernel
theorem dT_entersBefore_16 : decode bT_entersBefore 16 = .ok (.iconst 0, 1) := by decide +kernel
theorem dT_entersBefore_17 : decode bT_entersBefore 17 = .ok (.iload_n 3, 1) := by decide +kernel
theorem dT_entersBefore_18 : decode bT_entersBefore 18 = .ok (.invokevirtual 51, 3) := by decide +kernel
theorem dT_entersBefore_21 : decode bT_entersBefore 21 = .ok (.aload_n 0, 1) := by decide +kernel
theorem dT_entersBefore_22 : decode bT_entersBefore 22 = .ok (.iload_n 1, 1) := by decide +kernel
theorem dT_entersBefore_23 : decode bT_entersBefore 23 = .ok (.iload_n 2, 1) := by decide +kernel
theorem dT_entersBefore_24 : decode bT_entersBefore 24 = .ok (.invokevirtual 51, 3) := by decide +kernel
theorem dT_entersBefore_27 : decode bT_entersBefore 27 = .ok (.lmul, 1) := by decide +kernel
theorem dT_entersBefore_28 : decode bT_entersBefore 28 = .ok (.lstore 6, 2) := by decide +kernel
theorem dT_entersBefore_30 : decode bT_entersBefore 30 = .ok (.lload 4, 2) := by decide +kernel
theorem dT_entersBefore_32 : decode bT_entersBefore 32 = .ok (.lload 6, 2) := by decide +kernel
theorem dT_entersBefore_34 : decode bT_entersBefore 34 = .ok (.lcmp, 1) := by decide +kernel
theorem dT_entersBefore_35 : decode bT_entersBefore 35 = .ok (.ifCond .lt 26, 3) := by decide +kernel
theorem dT_entersBefore_38 : decode bT_entersBefore 38 = .ok (.lload 4, 2) := by decide +kernel
theorem dT_entersBefore_40 : decode bT_entersBefore 40 = .ok (.lload 6, 2) := by decide +kernel
theorem dT_entersBefore_42 : decode bT_entersBefore 42 = .ok (.lcmp, 1) := by decide +kernel
theorem dT_entersBefore_43 : decode bT_entersBefore 43 = .ok (.ifCond .ne 22, 3) := by decide +kernel
theorem dT_entersBefore_46 : decode bT_entersBefore 46 = .ok (.aload_n 0, 1) := by decide +kernel
theorem dT_entersBefore_47 : decode bT_entersBefore 47 = .ok (.getfield 19, 3) := by decide +kernel
theorem dT_entersBefore_50 : decode bT_entersBefore 50 = .ok (.iload_n 2, 1) := by decide +kernel
theorem dT_entersBefore_51 : decode bT_entersBefore 51 = .ok (.iaload, 1) := by decide +kernel
theorem dT_entersBefore_52 : decode bT_entersBefore 52 = .ok (.aload_n 0, 1) := by decide +kernel
theorem dT_entersBefore_53 : decode bT_entersBefore 53 = .ok (.getfield 19, 3) := by decide +kernel
theorem dT_entersBefore_56 : decode bT_entersBefore 56 = .ok (.iload_n 3, 1) := by decide +kernel
theorem dT_entersBefore_57 : decode bT_entersBefore 57 = .ok (.iaload, 1) := by decide +kernel
theorem dT_entersBefore_58 : decode bT_entersBefore 58 = .ok (.if_icmp .ge 7, 3) := by decide +kernel
theorem dT_entersBefore_61 : decode bT_entersBefore 61 = .ok (.iconst 1, 1) := by decide +kernel
theorem dT_entersBefore_62 : decode bT_entersBefore 62 = .ok (.goto 4, 3) := by decide +kernel
theorem dT_entersBefore_65 : decode bT_entersBefore 65 = .ok (.iconst 0, 1) := by decide +kernel
theorem dT_entersBefore_66 : decode bT_entersBefore 66 = .ok (.ireturn, 1) := by decide +kernel
theorem dT_afterStep_0 : decode bT_afterStep 0 = .ok (.aload_n 0, 1) := by decide +kernel
theorem dT_afterStep_1 : decode bT_afterStep 1 = .ok (.getfield 35, 3) := by decide +kernel
theorem dT_afterStep_4 : decode bT_afterStep 4 = .ok (.lconst 0, 1) := by decide +kernel
theorem dT_afterStep_5 : decode bT_afterStep 5 = .ok (.lcmp, 1) := by decide +kernel
theorem dT_afterStep_6 : decode bT_afterStep 6 = .ok (.ifCond .ne 7, 3) := by decide +kernel
theorem dT_afterStep_9 : decode bT_afterStep 9 = .ok (.lconst 0, 1) := by decide +kernel
theorem dT_afterStep_10 : decode bT_afterStep 10 = .ok (.goto 17, 3) := by decide +kernel
theorem dT_afterStep_13 : decode bT_afterStep 13 = .ok (.lload_n 1, 1) := by decide +kernel
theorem dT_afterStep_14 : decode bT_afterStep 14 = .ok (.lload_n 3, 1) := by decide +kernel
theorem dT_afterStep_15 : decode bT_afterStep 15 = .ok (.lmul, 1) := by decide +kernel
theorem dT_afterStep_16 : decode bT_afterStep 16 = .ok (.lload 5, 2) := by decide +kernel
theorem dT_afterStep_18 : decode bT_afterStep 18 = .ok (.lload 7, 2) := by decide +kernel
theorem dT_afterStep_20 : decode bT_afterStep 20 = .ok (.lmul, 1) := by decide +kernel
theorem dT_afterStep_21 : decode bT_afterStep 21 = .ok (.lsub, 1) := by decide +kernel
theorem dT_afterStep_22 : decode bT_afterStep 22 = .ok (.aload_n 0, 1) := by decide +kernel
theorem dT_afterStep_23 : decode bT_afterStep 23 = .ok (.getfield 35, 3) := by decide +kernel
theorem dT_afterStep_26 : decode bT_afterStep 26 = .ok (.ldiv, 1) := by decide +kernel
theorem dT_afterStep_27 : decode bT_afterStep 27 = .ok (.lreturn, 1) := by decide +kernel
theorem dT_stepFits_0 : decode bT_stepFits 0 = .ok (.iconst 0, 1) := by decide +kernel
theorem dT_stepFits_1 : decode bT_stepFits 1 = .ok (.istore_n 3, 1) := by decide +kernel
theorem dT_stepFits_2 : decode bT_stepFits 2 = .ok (.iload_n 3, 1) := by decide +kernel
theorem dT_stepFits_3 : decode bT_stepFits 3 = .ok (.aload_n 0, 1) := by decide +kernel
theorem dT_stepFits_4 : decode bT_stepFits 4 = .ok (.getfield 32, 3) := by decide +kernel
theorem dT_stepFits_7 : decode bT_stepFits 7 = .ok (.if_icmp .gt 26, 3) := by decide +kernel
theorem dT_stepFits_10 : decode bT_stepFits 10 = .ok (.iload_n 3, 1) := by decide +kernel
theorem dT_stepFits_11 : decode bT_stepFits 11 = .ok (.iload_n 1, 1) := by decide +kernel
theorem dT_stepFits_12 : decode bT_stepFits 12 = .ok (.if_icmp .eq 15, 3) := by decide +kernel
theorem dT_stepFits_15 : decode bT_stepFits 15 = .ok (.aload_n 0, 1) := by decide +kernel
theorem dT_stepFits_16 : decode bT_stepFits 16 = .ok (.iload_n 3, 1) := by decide +kernel
theorem dT_stepFits_17 : decode bT_stepFits 17 = .ok (.iload_n 1, 1) := by decide +kernel
theorem dT_stepFits_18 : decode bT_stepFits 18 = .ok (.iload_n 2, 1) := by decide +kernel
theorem dT_stepFits_19 : decode bT_stepFits 19 = .ok (.invokevirtual 80, 3) := by decide +kernel
theorem dT_stepFits_22 : decode bT_stepFits 22 = .ok (.ifCond .ne 5, 3) := by decide +kernel
theorem dT_stepFits_25 : decode bT_stepFits 25 = .ok (.iconst 0, 1) := by decide +kernel
theorem dT_stepFits_26 : decode bT_stepFits 26 = .ok (.ireturn, 1) := by decide +kernel
theorem dT_stepFits_27 : decode bT_stepFits 27 = .ok (.iinc 3 1, 3) := by decide +kernel
theorem dT_stepFits_30 : decode bT_stepFits 30 = .ok (.goto (-28), 3) := by decide +kernel
theorem dT_stepFits_33 : decode bT_stepFits 33 = .ok (.iconst 1, 1) := by decide +kernel
theorem dT_stepFits_34 : decode bT_stepFits 34 = .ok (.ireturn, 1) := by decide +kernel
theorem dT_otherFits_0 : decode bT_otherFits 0 = .ok (.aload_n 0, 1) := by decide +kernel
theorem dT_otherFits_1 : decode bT_otherFits 1 = .ok (.iload_n 2, 1) := by decide +kernel
theorem dT_otherFits_2 : decode bT_otherFits 2 = .ok (.iload_n 3, 1) := by decide +kernel
theorem dT_otherFits_3 : decode bT_otherFits 3 = .ok (.invokevirtual 51, 3) := by decide +kernel
theorem dT_otherFits_6 : decode bT_otherFits 6 = .ok (.lstore 4, 2) := by decide +kernel
theorem dT_otherFits_8 : decode bT_otherFits 8 = .ok (.aload_n 0, 1) := by decide +kernel
theorem dT_otherFits_9 : decode bT_otherFits 9 = .ok (.iload_n 1, 1) := by decide +kernel
theorem dT_otherFits_10 : decode bT_otherFits 10 = .ok (.iload_n 3, 1) := by decide +kernel
theorem dT_otherFits_11 : decode bT_otherFits 11 = .ok (.invokevirtual 51, 3) := by decide +kernel
theorem dT_otherFits_14 : decode bT_otherFits 14 = .ok (.lstore 6, 2) := by decide +kernel
theorem dT_otherFits_16 : decode bT_otherFits 16 = .ok (.iconst 0, 1) := by decide +kernel
theorem dT_otherFits_17 : decode bT_otherFits 17 = .ok (.istore 8, 2) := by decide +kernel
theorem dT_otherFits_19 : decode bT_otherFits 19 = .ok (.iload 8, 2) := by decide +kernel
theorem dT_otherFits_21 : decode bT_otherFits 21 = .ok (.aload_n 0, 1) := by decide +kernel
theorem dT_otherFits_22 : decode bT_otherFits 22 = .ok (.getfield 28, 3) := by decide +kernel
theorem dT_otherFits_25 : decode bT_otherFits 25 = .ok (.if_icmp .gt 45, 3) := by decide +kernel
theorem dT_otherFits_28 : decode bT_otherFits 28 = .ok (.iload 8, 2) := by decide +kernel
theorem dT_otherFits_30 : decode bT_otherFits 30 = .ok (.iload_n 3, 1) := by decide +kernel
theorem dT_otherFits_31 : decode bT_otherFits 31 = .ok (.if_icmp .eq 33, 3) := by decide +kernel
theorem dT_otherFits_34 : decode bT_otherFits 34 = .ok (.aload_n 0, 1) := by decide +kernel
theorem dT_otherFits_35 : decode bT_otherFits 35 = .ok (.aload_n 0, 1) := by decide +kernel
theorem dT_otherFits_36 : decode bT_otherFits 36 = .ok (.iload_n 1, 1) := by decide +kernel
theorem dT_otherFits_37 : decode bT_otherFits 37 = .ok (.iload 8, 2) := by decide +kernel
theorem dT_otherFits_39 : decode bT_otherFits 39 = .ok (.invokevirtual 51, 3) := by decide +kernel
theorem dT_otherFits_42 : decode bT_otherFits 42 = .ok (.lload 4, 2) := by decide +kernel
theorem dT_otherFits_44 : decode bT_otherFits 44 = .ok (.lload 6, 2) := by decide +kernel
theorem dT_otherFits_46 : decode bT_otherFits 46 = .ok (.aload_n 0, 1) := by decide +kernel
theorem dT_otherFits_47 : decode bT_otherFits 47 = .ok (.iload_n 2, 1) := by decide +kernel
theorem dT_otherFits_48 : decode bT_otherFits 48 = .ok (.iload 8, 2) := by decide +kernel
theorem dT_otherFits_50 : decode bT_otherFits 50 = .ok (.invokevirtual 51, 3) := by decide +kernel
theorem dT_otherFits_53 : decode bT_otherFits 53 = .ok (.invokevirtual 83, 3) := by decide +kernel
theorem dT_otherFits_56 : decode bT_otherFits 56 = .ok (.invokestatic 72, 3) := by decide +kernel
theorem dT_otherFits_59 : decode bT_otherFits 59 = .ok (.ifCond .ne 5, 3) := by decide +kernel
theorem dT_otherFits_62 : decode bT_otherFits 62 = .ok (.iconst 0, 1) := by decide +kernel
theorem dT_otherFits_63 : decode bT_otherFits 63 = .ok (.ireturn, 1) := by decide +kernel
theorem dT_otherFits_64 : decode bT_otherFits 64 = .ok (.iinc 8 1, 3) := by decide +kernel
theorem dT_otherFits_67 : decode bT_otherFits 67 = .ok (.goto (-48), 3) := by decide +kernel
theorem dT_otherFits_70 : decode bT_otherFits 70 = .ok (.iconst 1, 1) := by decide +kernel
theorem dT_otherFits_71 : decode bT_otherFits 71 = .ok (.ireturn, 1) := by decide +kernel
theorem dT_change_0 : decode bT_change 0 = .ok (.aload_n 0, 1) := by decide +kernel
theorem dT_change_1 : decode bT_change 1 = .ok (.iload_n 1, 1) := by decide +kernel
theorem dT_change_2 : decode bT_change 2 = .ok (.iload_n 2, 1) := by decide +kernel
theorem dT_change_3 : decode bT_change 3 = .ok (.invokevirtual 51, 3) := by decide +kernel
theorem dT_change_6 : decode bT_change 6 = .ok (.lstore_n 3, 1) := by decide +kernel
theorem dT_change_7 : decode bT_change 7 = .ok (.iconst 0, 1) := by decide +kernel
theorem dT_change_8 : decode bT_change 8 = .ok (.istore 5, 2) := by decide +kernel
theorem dT_change_10 : decode bT_change 10 = .ok (.iload 5, 2) := by decide +kernel
theorem dT_change_12 : decode bT_change 12 = .ok (.aload_n 0, 1) := by decide +kernel
theorem dT_change_13 : decode bT_change 13 = .ok (.getfield 32, 3) := by decide +kernel
theorem dT_change_16 : decode bT_change 16 = .ok (.if_icmp .gt 23, 3) := by decide +kernel
theorem dT_change_19 : decode bT_change 19 = .ok (.iload 5, 2) := by decide +kernel
theorem dT_change_21 : decode bT_change 21 = .ok (.iload_n 1, 1) := by decide +kernel
theorem dT_change_22 : decode bT_change 22 = .ok (.if_icmp .eq 11, 3) := by decide +kernel
theorem dT_change_25 : decode bT_change 25 = .ok (.aload_n 0, 1) := by decide +kernel
theorem dT_change_26 : decode bT_change 26 = .ok (.iload 5, 2) := by decide +kernel
theorem dT_change_28 : decode bT_change 28 = .ok (.iload_n 1, 1) := by decide +kernel
theorem dT_change_29 : decode bT_change 29 = .ok (.iload_n 2, 1) := by decide +kernel
theorem dT_change_30 : decode bT_change 30 = .ok (.invokevirtual 87, 3) := by decide +kernel
theorem dT_change_33 : decode bT_change 33 = .ok (.iinc 5 1, 3) := by decide +kernel
theorem dT_change_36 : decode bT_change 36 = .ok (.goto (-26), 3) := by decide +kernel
theorem dT_change_39 : decode bT_change 39 = .ok (.aload_n 0, 1) := by decide +kernel
theorem dT_change_40 : decode bT_change 40 = .ok (.iload_n 1, 1) := by decide +kernel
theorem dT_change_41 : decode bT_change 41 = .ok (.iload_n 2, 1) := by decide +kernel
theorem dT_change_42 : decode bT_change 42 = .ok (.invokevirtual 91, 3) := by decide +kernel
theorem dT_change_45 : decode bT_change 45 = .ok (.aload_n 0, 1) := by decide +kernel
theorem dT_change_46 : decode bT_change 46 = .ok (.getfield 15, 3) := by decide +kernel
theorem dT_change_49 : decode bT_change 49 = .ok (.iload_n 1, 1) := by decide +kernel
theorem dT_change_50 : decode bT_change 50 = .ok (.iaload, 1) := by decide +kernel
theorem dT_change_51 : decode bT_change 51 = .ok (.istore 5, 2) := by decide +kernel
theorem dT_change_53 : decode bT_change 53 = .ok (.aload_n 0, 1) := by decide +kernel
theorem dT_change_54 : decode bT_change 54 = .ok (.getfield 15, 3) := by decide +kernel
theorem dT_change_57 : decode bT_change 57 = .ok (.iload_n 1, 1) := by decide +kernel
theorem dT_change_58 : decode bT_change 58 = .ok (.aload_n 0, 1) := by decide +kernel
theorem dT_change_59 : decode bT_change 59 = .ok (.getfield 19, 3) := by decide +kernel
theorem dT_change_62 : decode bT_change 62 = .ok (.iload_n 2, 1) := by decide +kernel
theorem dT_change_63 : decode bT_change 63 = .ok (.iaload, 1) := by decide +kernel
theorem dT_change_64 : decode bT_change 64 = .ok (.iastore, 1) := by decide +kernel
theorem dT_change_65 : decode bT_change 65 = .ok (.aload_n 0, 1) := by decide +kernel
theorem dT_change_66 : decode bT_change 66 = .ok (.getfield 19, 3) := by decide +kernel
theorem dT_change_69 : decode bT_change 69 = .ok (.iload_n 2, 1) := by decide +kernel
theorem dT_change_70 : decode bT_change 70 = .ok (.iload 5, 2) := by decide +kernel
theorem dT_change_72 : decode bT_change 72 = .ok (.iastore, 1) := by decide +kernel
theorem dT_change_73 : decode bT_change 73 = .ok (.aload_n 0, 1) := by decide +kernel
theorem dT_change_74 : decode bT_change 74 = .ok (.lload_n 3, 1) := by decide +kernel
theorem dT_change_75 : decode bT_change 75 = .ok (.putfield 35, 3) := by decide +kernel
theorem dT_change_78 : decode bT_change 78 = .ok (.return_, 1) := by decide +kernel
theorem dT_changeOther_0 : decode bT_changeOther 0 = .ok (.aload_n 0, 1) := by decide +kernel
theorem dT_changeOther_1 : decode bT_changeOther 1 = .ok (.iload_n 2, 1) := by decide +kernel
theorem dT_changeOther_2 : decode bT_changeOther 2 = .ok (.iload_n 3, 1) := by decide +kernel
theorem dT_changeOther_3 : decode bT_changeOther 3 = .ok (.invokevirtual 51, 3) := by decide +kernel
theorem dT_changeOther_6 : decode bT_changeOther 6 = .ok (.lstore 4, 2) := by decide +kernel
theorem dT_changeOther_8 : decode bT_changeOther 8 = .ok (.aload_n 0, 1) := by decide +kernel
theorem dT_changeOther_9 : decode bT_changeOther 9 = .ok (.iload_n 1, 1) := by decide +kernel
theorem dT_changeOther_10 : decode bT_changeOther 10 = .ok (.iload_n 3, 1) := by decide +kernel
theorem dT_changeOther_11 : decode bT_changeOther 11 = .ok (.invokevirtual 51, 3) := by decide +kernel
theorem dT_changeOther_14 : decode bT_changeOther 14 = .ok (.lstore 6, 2) := by decide +kernel
theorem dT_changeOther_16 : decode bT_changeOther 16 = .ok (.iconst 0, 1) := by decide +kernel
theorem dT_changeOther_17 : decode bT_changeOther 17 = .ok (.istore 8, 2) := by decide +kernel
theorem dT_changeOther_19 : decode bT_changeOther 19 = .ok (.iload 8, 2) := by decide +kernel
theorem dT_changeOther_21 : decode bT_changeOther 21 = .ok (.aload_n 0, 1) := by decide +kernel
theorem dT_changeOther_22 : decode bT_changeOther 22 = .ok (.getfield 28, 3) := by decide +kernel
theorem dT_changeOther_25 : decode bT_changeOther 25 = .ok (.if_icmp .gt 44, 3) := by decide +kernel
theorem dT_changeOther_28 : decode bT_changeOther 28 = .ok (.iload 8, 2) := by decide +kernel
theorem dT_changeOther_30 : decode bT_changeOther 30 = .ok (.iload_n 3, 1) := by decide +kernel
theorem dT_changeOther_31 : decode bT_changeOther 31 = .ok (.if_icmp .eq 32, 3) := by decide +kernel
theorem dT_changeOther_34 : decode bT_changeOther 34 = .ok (.aload_n 0, 1) := by decide +kernel
theorem dT_changeOther_35 : decode bT_changeOther 35 = .ok (.iload_n 1, 1) := by decide +kernel
theorem dT_changeOther_36 : decode bT_changeOther 36 = .ok (.iload 8, 2) := by decide +kernel
theorem dT_changeOther_38 : decode bT_changeOther 38 = .ok (.aload_n 0, 1) := by decide +kernel
theorem dT_changeOther_39 : decode bT_changeOther 39 = .ok (.aload_n 0, 1) := by decide +kernel
theorem dT_changeOther_40 : decode bT_changeOther 40 = .ok (.iload_n 1, 1) := by decide +kernel
theorem dT_changeOther_41 : decode bT_changeOther 41 = .ok (.iload 8, 2) := by decide +kernel
theorem dT_changeOther_43 : decode bT_changeOther 43 = .ok (.invokevirtual 51, 3) := by decide +kernel
theorem dT_changeOther_46 : decode bT_changeOther 46 = .ok (.lload 4, 2) := by decide +kernel
theorem dT_changeOther_48 : decode bT_changeOther 48 = .ok (.lload 6, 2) := by decide +kernel
theorem dT_changeOther_50 : decode bT_changeOther 50 = .ok (.aload_n 0, 1) := by decide +kernel
theorem dT_changeOther_51 : decode bT_changeOther 51 = .ok (.iload_n 2, 1) := by decide +kernel
theorem dT_changeOther_52 : decode bT_changeOther 52 = .ok (.iload 8, 2) := by decide +kernel
theorem dT_changeOther_54 : decode bT_changeOther 54 = .ok (.invokevirtual 51, 3) := by decide +kernel
theorem dT_changeOther_57 : decode bT_changeOther 57 = .ok (.invokevirtual 83, 3) := by decide +kernel
theorem dT_changeOther_60 : decode bT_changeOther 60 = .ok (.invokevirtual 43, 3) := by decide +kernel
theorem dT_changeOther_63 : decode bT_changeOther 63 = .ok (.iinc 8 1, 3) := by decide +kernel
theorem dT_changeOther_66 : decode bT_changeOther 66 = .ok (.goto (-47), 3) := by decide +kernel
theorem dT_changeOther_69 : decode bT_changeOther 69 = .ok (.return_, 1) := by decide +kernel
theorem dT_changeEntered_0 : decode bT_changeEntered 0 = .ok (.iconst 0, 1) := by decide +kernel
theorem dT_changeEntered_1 : decode bT_changeEntered 1 = .ok (.istore_n 3, 1) := by decide +kernel
theorem dT_changeEntered_2 : decode bT_changeEntered 2 = .ok (.iload_n 3, 1) := by decide +kernel
theorem dT_changeEntered_3 : decode bT_changeEntered 3 = .ok (.aload_n 0, 1) := by decide +kernel
theorem dT_changeEntered_4 : decode bT_changeEntered 4 = .ok (.getfield 28, 3) := by decide +kernel
theorem dT_changeEntered_7 : decode bT_changeEntered 7 = .ok (.if_icmp .gt 34, 3) := by decide +kernel
theorem dT_changeEntered_10 : decode bT_changeEntered 10 = .ok (.aload_n 0, 1) := by decide +kernel
theorem dT_changeEntered_11 : decode bT_changeEntered 11 = .ok (.iload_n 1, 1) := by decide +kernel
theorem dT_changeEntered_12 : decode bT_changeEntered 12 = .ok (.iload_n 3, 1) := by decide +kernel
theorem dT_changeEntered_13 : decode bT_changeEntered 13 = .ok (.iload_n 3, 1) := by decide +kernel
theorem dT_changeEntered_14 : decode bT_changeEntered 14 = .ok (.iload_n 2, 1) := by decide +kernel
theorem dT_changeEntered_15 : decode bT_changeEntered 15 = .ok (.if_icmp .ne 10, 3) := by decide +kernel
theorem dT_changeEntered_18 : decode bT_changeEntered 18 = .ok (.aload_n 0, 1) := by decide +kernel
theorem dT_changeEntered_19 : decode bT_changeEntered 19 = .ok (.getfield 35, 3) := by decide +kernel
theorem dT_changeEntered_22 : decode bT_changeEntered 22 = .ok (.goto 10, 3) := by decide +kernel
theorem dT_changeEntered_25 : decode bT_changeEntered 25 = .ok (.aload_n 0, 1) := by decide +kernel
theorem dT_changeEntered_26 : decode bT_changeEntered 26 = .ok (.iload_n 1, 1) := by decide +kernel
theorem dT_changeEntered_27 : decode bT_changeEntered 27 = .ok (.iload_n 3, 1) := by decide +kernel
theorem dT_changeEntered_28 : decode bT_changeEntered 28 = .ok (.invokevirtual 51, 3) := by decide +kernel
theorem dT_changeEntered_31 : decode bT_changeEntered 31 = .ok (.lneg, 1) := by decide +kernel
theorem dT_changeEntered_32 : decode bT_changeEntered 32 = .ok (.invokevirtual 43, 3) := by decide +kernel
theorem dT_changeEntered_35 : decode bT_changeEntered 35 = .ok (.iinc 3 1, 3) := by decide +kernel
theorem dT_changeEntered_38 : decode bT_changeEntered 38 = .ok (.goto (-36), 3) := by decide +kernel
theorem dT_changeEntered_41 : decode bT_changeEntered 41 = .ok (.return_, 1) := by decide +kernel
theorem dT_copyStarts_0 : decode bT_copyStarts 0 = .ok (.iconst 0, 1) := by decide +kernel
theorem dT_copyStarts_1 : decode bT_copyStarts 1 = .ok (.istore_n 1, 1) := by decide +kernel
theorem dT_copyStarts_2 : decode bT_copyStarts 2 = .ok (.iload_n 1, 1) := by decide +kernel
theorem dT_copyStarts_3 : decode bT_copyStarts 3 = .ok (.aload_n 0, 1) := by decide +kernel
theorem dT_copyStarts_4 : decode bT_copyStarts 4 = .ok (.getfield 32, 3) := by decide +kernel
theorem dT_copyStarts_7 : decode bT_copyStarts 7 = .ok (.if_icmp .gt 21, 3) := by decide +kernel
theorem dT_copyStarts_10 : decode bT_copyStarts 10 = .ok (.aload_n 0, 1) := by decide +kernel
theorem dT_copyStarts_11 : decode bT_copyStarts 11 = .ok (.getfield 25, 3) := by decide +kernel
theorem dT_copyStarts_14 : decode bT_copyStarts 14 = .ok (.iload_n 1, 1) := by decide +kernel
theorem dT_copyStarts_15 : decode bT_copyStarts 15 = .ok (.aload_n 0, 1) := by decide +kernel
theorem dT_copyStarts_16 : decode bT_copyStarts 16 = .ok (.iload_n 1, 1) := by decide +kernel
theorem dT_copyStarts_17 : decode bT_copyStarts 17 = .ok (.iconst 0, 1) := by decide +kernel
theorem dT_copyStarts_18 : decode bT_copyStarts 18 = .ok (.invokevirtual 51, 3) := by decide +kernel
theorem dT_copyStarts_21 : decode bT_copyStarts 21 = .ok (.lastore, 1) := by decide +kernel
theorem dT_copyStarts_22 : decode bT_copyStarts 22 = .ok (.iinc 1 1, 3) := by decide +kernel
theorem dT_copyStarts_25 : decode bT_copyStarts 25 = .ok (.goto (-23), 3) := by decide +kernel
theorem dT_copyStarts_28 : decode bT_copyStarts 28 = .ok (.return_, 1) := by decide +kernel
theorem dT_moveCopied_0 : decode bT_moveCopied 0 = .ok (.aload_n 0, 1) := by decide +kernel
theorem dT_moveCopied_1 : decode bT_moveCopied 1 = .ok (.iload_n 1, 1) := by decide +kernel
theorem dT_moveCopied_2 : decode bT_moveCopied 2 = .ok (.invokevirtual 47, 3) := by decide +kernel
theorem dT_moveCopied_5 : decode bT_moveCopied 5 = .ok (.istore 4, 2) := by decide +kernel
theorem dT_moveCopied_7 : decode bT_moveCopied 7 = .ok (.iload 4, 2) := by decide +kernel
theorem dT_moveCopied_9 : decode bT_moveCopied 9 = .ok (.iconst (-1), 1) := by decide +kernel
theorem dT_moveCopied_10 : decode bT_moveCopied 10 = .ok (.if_icmp .eq 20, 3) := by decide +kernel
theorem dT_moveCopied_13 : decode bT_moveCopied 13 = .ok (.aload_n 0, 1) := by decide +kernel
theorem dT_moveCopied_14 : decode bT_moveCopied 14 = .ok (.getfield 25, 3) := by decide +kernel
theorem dT_moveCopied_17 : decode bT_moveCopied 17 = .ok (.iload 4, 2) := by decide +kernel
theorem dT_moveCopied_19 : decode bT_moveCopied 19 = .ok (.dup2, 1) := by decide +kernel
theorem dT_moveCopied_20 : decode bT_moveCopied 20 = .ok (.laload, 1) := by decide +kernel
theorem dT_moveCopied_21 : decode bT_moveCopied 21 = .ok (.aload_n 0, 1) := by decide +kernel
theorem dT_moveCopied_22 : decode bT_moveCopied 22 = .ok (.getfield 35, 3) := by decide +kernel
theorem dT_moveCopied_25 : decode bT_moveCopied 25 = .ok (.lload_n 2, 1) := by decide +kernel
theorem dT_moveCopied_26 : decode bT_moveCopied 26 = .ok (.lmul, 1) := by decide +kernel
theorem dT_moveCopied_27 : decode bT_moveCopied 27 = .ok (.ladd, 1) := by decide +kernel
theorem dT_moveCopied_28 : decode bT_moveCopied 28 = .ok (.lastore, 1) := by decide +kernel
theorem dT_moveCopied_29 : decode bT_moveCopied 29 = .ok (.return_, 1) := by decide +kernel
theorem dT_moveCopied_30 : decode bT_moveCopied 30 = .ok (.aload_n 0, 1) := by decide +kernel
theorem dT_moveCopied_31 : decode bT_moveCopied 31 = .ok (.iload_n 1, 1) := by decide +kernel
theorem dT_moveCopied_32 : decode bT_moveCopied 32 = .ok (.invokevirtual 55, 3) := by decide +kernel
theorem dT_moveCopied_35 : decode bT_moveCopied 35 = .ok (.istore 5, 2) := by decide +kernel
theorem dT_moveCopied_37 : decode bT_moveCopied 37 = .ok (.iconst 0, 1) := by decide +kernel
theorem dT_moveCopied_38 : decode bT_moveCopied 38 = .ok (.istore 6, 2) := by decide +kernel
theorem dT_moveCopied_40 : decode bT_moveCopied 40 = .ok (.iload 5, 2) := by decide +kernel
theorem dT_moveCopied_42 : decode bT_moveCopied 42 = .ok (.iconst (-1), 1) := by decide +kernel
theorem dT_moveCopied_43 : decode bT_moveCopied 43 = .ok (.if_icmp .eq 38, 3) := by decide +kernel
theorem dT_moveCopied_46 : decode bT_moveCopied 46 = .ok (.iload 6, 2) := by decide +kernel
theorem dT_moveCopied_48 : decode bT_moveCopied 48 = .ok (.aload_n 0, 1) := by decide +kernel
theorem dT_moveCopied_49 : decode bT_moveCopied 49 = .ok (.getfield 32, 3) := by decide +kernel
theorem dT_moveCopied_52 : decode bT_moveCopied 52 = .ok (.if_icmp .gt 29, 3) := by decide +kernel
theorem dT_moveCopied_55 : decode bT_moveCopied 55 = .ok (.aload_n 0, 1) := by decide +kernel
theorem dT_moveCopied_56 : decode bT_moveCopied 56 = .ok (.getfield 25, 3) := by decide +kernel
theorem dT_moveCopied_59 : decode bT_moveCopied 59 = .ok (.iload 6, 2) := by decide +kernel
theorem dT_moveCopied_61 : decode bT_moveCopied 61 = .ok (.dup2, 1) := by decide +kernel
theorem dT_moveCopied_62 : decode bT_moveCopied 62 = .ok (.laload, 1) := by decide +kernel
theorem dT_moveCopied_63 : decode bT_moveCopied 63 = .ok (.aload_n 0, 1) := by decide +kernel
theorem dT_moveCopied_64 : decode bT_moveCopied 64 = .ok (.iload 6, 2) := by decide +kernel
theorem dT_moveCopied_66 : decode bT_moveCopied 66 = .ok (.iload 5, 2) := by decide +kernel
theorem dT_moveCopied_68 : decode bT_moveCopied 68 = .ok (.invokevirtual 51, 3) := by decide +kernel
theorem dT_moveCopied_71 : decode bT_moveCopied 71 = .ok (.lload_n 2, 1) := by decide +kernel
theorem dT_moveCopied_72 : decode bT_moveCopied 72 = .ok (.lmul, 1) := by decide +kernel
theorem dT_moveCopied_73 : decode bT_moveCopied 73 = .ok (.lsub, 1) := by decide +kernel
theorem dT_moveCopied_74 : decode bT_moveCopied 74 = .ok (.lastore, 1) := by decide +kernel
theorem dT_moveCopied_75 : decode bT_moveCopied 75 = .ok (.iinc 6 1, 3) := by decide +kernel
theorem dT_moveCopied_78 : decode bT_moveCopied 78 = .ok (.goto (-38), 3) := by decide +kernel
theorem dT_moveCopied_81 : decode bT_moveCopied 81 = .ok (.return_, 1) := by decide +kernel
theorem dT_takeCopiedStarts_0 : decode bT_takeCopiedStarts 0 = .ok (.iconst 0, 1) := by decide +kernel
theorem dT_takeCopiedStarts_1 : decode bT_takeCopiedStarts 1 = .ok (.istore_n 1, 1) := by decide +kernel
theorem dT_takeCopiedStarts_2 : decode bT_takeCopiedStarts 2 = .ok (.iload_n 1, 1) := by decide +kernel
theorem dT_takeCopiedStarts_3 : decode bT_takeCopiedStarts 3 = .ok (.aload_n 0, 1) := by decide +kernel
theorem dT_takeCopiedStarts_4 : decode bT_takeCopiedStarts 4 = .ok (.getfield 32, 3) := by decide +kernel
theorem dT_takeCopiedStarts_7 : decode bT_takeCopiedStarts 7 = .ok (.if_icmp .gt 23, 3) := by decide +kernel
theorem dT_takeCopiedStarts_10 : decode bT_takeCopiedStarts 10 = .ok (.aload_n 0, 1) := by decide +kernel
theorem dT_takeCopiedStarts_11 : decode bT_takeCopiedStarts 11 = .ok (.getfield 25, 3) := by decide +kernel
theorem dT_takeCopiedStarts_14 : decode bT_takeCopiedStarts 14 = .ok (.iload_n 1, 1) := by decide +kernel
theorem dT_takeCopiedStarts_15 : decode bT_takeCopiedStarts 15 = .ok (.laload, 1) := by decide +kernel
theorem dT_takeCopiedStarts_16 : decode bT_takeCopiedStarts 16 = .ok (.invokestatic 72, 3) := by decide +kernel
theorem dT_takeCopiedStarts_19 : decode bT_takeCopiedStarts 19 = .ok (.ifCond .ne 5, 3) := by decide +kernel
theorem dT_takeCopiedStarts_22 : decode bT_takeCopiedStarts 22 = .ok (.iconst 0, 1) := by decide +kernel
theorem dT_takeCopiedStarts_23 : decode bT_takeCopiedStarts 23 = .ok (.ireturn, 1) := by decide +kernel
theorem dT_takeCopiedStarts_24 : decode bT_takeCopiedStarts 24 = .ok (.iinc 1 1, 3) := by decide +kernel
theorem dT_takeCopiedStarts_27 : decode bT_takeCopiedStarts 27 = .ok (.goto (-25), 3) := by decide +kernel
theorem dT_takeCopiedStarts_30 : decode bT_takeCopiedStarts 30 = .ok (.iconst 0, 1) := by decide +kernel
theorem dT_takeCopiedStarts_31 : decode bT_takeCopiedStarts 31 = .ok (.istore_n 1, 1) := by decide +kernel
theorem dT_takeCopiedStarts_32 : decode bT_takeCopiedStarts 32 = .ok (.iload_n 1, 1) := by decide +kernel
theorem dT_takeCopiedStarts_33 : decode bT_takeCopiedStarts 33 = .ok (.aload_n 0, 1) := by decide +kernel
theorem dT_takeCopiedStarts_34 : decode bT_takeCopiedStarts 34 = .ok (.getfield 32, 3) := by decide +kernel
theorem dT_takeCopiedStarts_37 : decode bT_takeCopiedStarts 37 = .ok (.if_icmp .gt 21, 3) := by decide +kernel
theorem dT_takeCopiedStarts_40 : decode bT_takeCopiedStarts 40 = .ok (.aload_n 0, 1) := by decide +kernel
theorem dT_takeCopiedStarts_41 : decode bT_takeCopiedStarts 41 = .ok (.iload_n 1, 1) := by decide +kernel
theorem dT_takeCopiedStarts_42 : decode bT_takeCopiedStarts 42 = .ok (.iconst 0, 1) := by decide +kernel
theorem dT_takeCopiedStarts_43 : decode bT_takeCopiedStarts 43 = .ok (.aload_n 0, 1) := by decide +kernel
theorem dT_takeCopiedStarts_44 : decode bT_takeCopiedStarts 44 = .ok (.getfield 25, 3) := by decide +kernel
theorem dT_takeCopiedStarts_47 : decode bT_takeCopiedStarts 47 = .ok (.iload_n 1, 1) := by decide +kernel
theorem dT_takeCopiedStarts_48 : decode bT_takeCopiedStarts 48 = .ok (.laload, 1) := by decide +kernel
theorem dT_takeCopiedStarts_49 : decode bT_takeCopiedStarts 49 = .ok (.invokevirtual 43, 3) := by decide +kernel
theorem dT_takeCopiedStarts_52 : decode bT_takeCopiedStarts 52 = .ok (.iinc 1 1, 3) := by decide +kernel
theorem dT_takeCopiedStarts_55 : decode bT_takeCopiedStarts 55 = .ok (.goto (-23), 3) := by decide +kernel
theorem dT_takeCopiedStarts_58 : decode bT_takeCopiedStarts 58 = .ok (.iconst 1, 1) := by decide +kernel
theorem dT_takeCopiedStarts_59 : decode bT_takeCopiedStarts 59 = .ok (.ireturn, 1) := by decide +kernel
end
section
theorem dP_init_0 : decode bP_init 0 = .ok (.aload_n 0, 1) := by decide +kernel
theorem dP_init_1 : decode bP_init 1 = .ok (.invokespecial 1, 3) := by decide +kernel
theorem dP_init_4 : decode bP_init 4 = .ok (.aload_n 0, 1) := by decide +kernel
theorem dP_init_5 : decode bP_init 5 = .ok (.bipush 12, 2) := by decide +kernel
theorem dP_init_7 : decode bP_init 7 = .ok (.newarray .int, 2) := by decide +kernel
theorem dP_init_9 : decode bP_init 9 = .ok (.putfield 9, 3) := by decide +kernel
theorem dP_init_12 : decode bP_init 12 = .ok (.aload_n 0, 1) := by decide +kernel
theorem dP_init_13 : decode bP_init 13 = .ok (.bipush 12, 2) := by decide +kernel
theorem dP_init_15 : decode bP_init 15 = .ok (.newarray .int, 2) := by decide +kernel
theorem dP_init_17 : decode bP_init 17 = .ok (.putfield 13, 3) := by decide +kernel
theorem dP_init_20 : decode bP_init 20 = .ok (.aload_n 0, 1) := by decide +kernel
theorem dP_init_21 : decode bP_init 21 = .ok (.bipush 12, 2) := by decide +kernel
theorem dP_init_23 : decode bP_init 23 = .ok (.newarray .long, 2) := by decide +kernel
theorem dP_init_25 : decode bP_init 25 = .ok (.putfield 16, 3) := by decide +kernel
theorem dP_init_28 : decode bP_init 28 = .ok (.aload_n 0, 1) := by decide +kernel
theorem dP_init_29 : decode bP_init 29 = .ok (.sipush 144, 3) := by decide +kernel
theorem dP_init_32 : decode bP_init 32 = .ok (.newarray .int, 2) := by decide +kernel
theorem dP_init_34 : decode bP_init 34 = .ok (.putfield 20, 3) := by decide +kernel
theorem dP_init_37 : decode bP_init 37 = .ok (.aload_n 0, 1) := by decide +kernel
theorem dP_init_38 : decode bP_init 38 = .ok (.bipush 12, 2) := by decide +kernel
theorem dP_init_40 : decode bP_init 40 = .ok (.newarray .int, 2) := by decide +kernel
theorem dP_init_42 : decode bP_init 42 = .ok (.putfield 23, 3) := by decide +kernel
theorem dP_init_45 : decode bP_init 45 = .ok (.aload_n 0, 1) := by decide +kernel
theorem dP_init_46 : decode bP_init 46 = .ok (.new 26, 3) := by decide +kernel
theorem dP_init_49 : decode bP_init 49 = .ok (.dup, 1) := by decide +kernel
theorem dP_init_50 : decode bP_init 50 = .ok (.invokespecial 28, 3) := by decide +kernel
theorem dP_init_53 : decode bP_init 53 = .ok (.putfield 29, 3) := by decide +kernel
theorem dP_init_56 : decode bP_init 56 = .ok (.aload_n 0, 1) := by decide +kernel
theorem dP_init_57 : decode bP_init 57 = .ok (.iconst 0, 1) := by decide +kernel
theorem dP_init_58 : decode bP_init 58 = .ok (.putfield 33, 3) := by decide +kernel
theorem dP_init_61 : decode bP_init 61 = .ok (.aload_n 0, 1) := by decide +kernel
theorem dP_init_62 : decode bP_init 62 = .ok (.iconst 0, 1) := by decide +kernel
theorem dP_init_63 : decode bP_init 63 = .ok (.putfield 37, 3) := by decide +kernel
theorem dP_init_66 : decode bP_init 66 = .ok (.aload_n 0, 1) := by decide +kernel
theorem dP_init_67 : decode bP_init 67 = .ok (.iconst 0, 1) := by decide +kernel
theorem dP_init_68 : decode bP_init 68 = .ok (.putfield 40, 3) := by decide +kernel
theorem dP_init_71 : decode bP_init 71 = .ok (.aload_n 0, 1) := by decide +kernel
theorem dP_init_72 : decode bP_init 72 = .ok (.iconst 0, 1) := by decide +kernel
theorem dP_init_73 : decode bP_init 73 = .ok (.putfield 43, 3) := by decide +kernel
theorem dP_init_76 : decode bP_init 76 = .ok (.aload_n 0, 1) := by decide +kernel
theorem dP_init_77 : decode bP_init 77 = .ok (.iconst (-1), 1) := by decide +kernel
theorem dP_init_78 : decode bP_init 78 = .ok (.putfield 47, 3) := by decide +kernel
theorem dP_init_81 : decode bP_init 81 = .ok (.aload_n 0, 1) := by decide +kernel
theorem dP_init_82 : decode bP_init 82 = .ok (.iconst 1, 1) := by decide +kernel
theorem dP_init_83 : decode bP_init 83 = .ok (.bipush 60, 2) := by decide +kernel
theorem dP_init_85 : decode bP_init 85 = .ok (.iload_n 1, 1) := by decide +kernel
theorem dP_init_86 : decode bP_init 86 = .ok (.invokestatic 50, 3) := by decide +kernel
theorem dP_init_89 : decode bP_init 89 = .ok (.invokestatic 56, 3) := by decide +kernel
theorem dP_init_92 : decode bP_init 92 = .ok (.putfield 59, 3) := by decide +kernel
theorem dP_init_95 : decode bP_init 95 = .ok (.return_, 1) := by decide +kernel
theorem dP_column_0 : decode bP_column 0 = .ok (.aload_n 0, 1) := by decide +kernel
theorem dP_column_1 : decode bP_column 1 = .ok (.getfield 43, 3) := by decide +kernel
theorem dP_column_4 : decode bP_column 4 = .ok (.ifCond .ne 15, 3) := by decide +kernel
theorem dP_column_7 : decode bP_column 7 = .ok (.aload_n 0, 1) := by decide +kernel
theorem dP_column_8 : decode bP_column 8 = .ok (.getfield 29, 3) := by decide +kernel
theorem dP_column_11 : decode bP_column 11 = .ok (.getfield 62, 3) := by decide +kernel
theorem dP_column_14 : decode bP_column 14 = .ok (.bipush 12, 2) := by decide +kernel
theorem dP_column_16 : decode bP_column 16 = .ok (.if_icmp .lt 13, 3) := by decide +kernel
theorem dP_column_19 : decode bP_column 19 = .ok (.new 65, 3) := by decide +kernel
theorem dP_column_22 : decode bP_column 22 = .ok (.dup, 1) := by decide +kernel
theorem dP_column_23 : decode bP_column 23 = .ok (.ldc 67, 2) := by decide +kernel
theorem dP_column_25 : decode bP_column 25 = .ok (.invokespecial 69, 3) := by decide +kernel
theorem dP_column_28 : decode bP_column 28 = .ok (.athrow, 1) := by decide +kernel
theorem dP_column_29 : decode bP_column 29 = .ok (.lload_n 1, 1) := by decide +kernel
theorem dP_column_30 : decode bP_column 30 = .ok (.lconst 0, 1) := by decide +kernel
theorem dP_column_31 : decode bP_column 31 = .ok (.lcmp, 1) := by decide +kernel
theorem dP_column_32 : decode bP_column 32 = .ok (.ifCond .lt 11, 3) := by decide +kernel
theorem dP_column_35 : decode bP_column 35 = .ok (.lload_n 1, 1) := by decide +kernel
theorem dP_column_36 : decode bP_column 36 = .ok (.ldc2_w 72, 3) := by decide +kernel
theorem dP_column_39 : decode bP_column 39 = .ok (.lcmp, 1) := by decide +kernel
theorem dP_column_40 : decode bP_column 40 = .ok (.ifCond .le 13, 3) := by decide +kernel
theorem dP_column_43 : decode bP_column 43 = .ok (.new 74, 3) := by decide +kernel
theorem dP_column_46 : decode bP_column 46 = .ok (.dup, 1) := by decide +kernel
theorem dP_column_47 : decode bP_column 47 = .ok (.ldc 76, 2) := by decide +kernel
theorem dP_column_49 : decode bP_column 49 = .ok (.invokespecial 78, 3) := by decide +kernel
theorem dP_column_52 : decode bP_column 52 = .ok (.athrow, 1) := by decide +kernel
theorem dP_column_53 : decode bP_column 53 = .ok (.aload_n 0, 1) := by decide +kernel
theorem dP_column_54 : decode bP_column 54 = .ok (.getfield 29, 3) := by decide +kernel
theorem dP_column_57 : decode bP_column 57 = .ok (.lload_n 1, 1) := by decide +kernel
theorem dP_column_58 : decode bP_column 58 = .ok (.invokevirtual 79, 3) := by decide +kernel
theorem dP_column_61 : decode bP_column 61 = .ok (.ireturn, 1) := by decide +kernel
theorem dP_row_0 : decode bP_row 0 = .ok (.aload_n 0, 1) := by decide +kernel
theorem dP_row_1 : decode bP_row 1 = .ok (.invokevirtual 83, 3) := by decide +kernel
theorem dP_row_4 : decode bP_row 4 = .ok (.iload_n 1, 1) := by decide +kernel
theorem dP_row_5 : decode bP_row 5 = .ok (.ifCond .lt 8, 3) := by decide +kernel
theorem dP_row_8 : decode bP_row 8 = .ok (.iload_n 1, 1) := by decide +kernel
theorem dP_row_9 : decode bP_row 9 = .ok (.iconst 2, 1) := by decide +kernel
theorem dP_row_10 : decode bP_row 10 = .ok (.if_icmp .le 13, 3) := by decide +kernel
theorem dP_row_13 : decode bP_row 13 = .ok (.new 74, 3) := by decide +kernel
theorem dP_row_16 : decode bP_row 16 = .ok (.dup, 1) := by decide +kernel
theorem dP_row_17 : decode bP_row 17 = .ok (.ldc 86, 2) := by decide +kernel
theorem dP_row_19 : decode bP_row 19 = .ok (.invokespecial 78, 3) := by decide +kernel
theorem dP_row_22 : decode bP_row 22 = .ok (.athrow, 1) := by decide +kernel
theorem dP_row_23 : decode bP_row 23 = .ok (.iload_n 2, 1) := by decide +kernel
theorem dP_row_24 : decode bP_row 24 = .ok (.ifCond .lt 11, 3) := by decide +kernel
theorem dP_row_27 : decode bP_row 27 = .ok (.iload_n 2, 1) := by decide +kernel
theorem dP_row_28 : decode bP_row 28 = .ok (.aload_n 0, 1) := by decide +kernel
theorem dP_row_29 : decode bP_row 29 = .ok (.getfield 59, 3) := by decide +kernel
theorem dP_row_32 : decode bP_row 32 = .ok (.if_icmp .lt 13, 3) := by decide +kernel
theorem dP_row_35 : decode bP_row 35 = .ok (.new 74, 3) := by decide +kernel
theorem dP_row_38 : decode bP_row 38 = .ok (.dup, 1) := by decide +kernel
theorem dP_row_39 : decode bP_row 39 = .ok (.ldc 88, 2) := by decide +kernel
theorem dP_row_41 : decode bP_row 41 = .ok (.invokespecial 78, 3) := by decide +kernel
theorem dP_row_44 : decode bP_row 44 = .ok (.athrow, 1) := by decide +kernel
theorem dP_row_45 : decode bP_row 45 = .ok (.lload_n 3, 1) := by decide +kernel
theorem dP_row_46 : decode bP_row 46 = .ok (.invokestatic 90, 3) := by decide +kernel
theorem dP_row_49 : decode bP_row 49 = .ok (.aload_n 0, 1) := by decide +kernel
theorem dP_row_50 : decode bP_row 50 = .ok (.iload_n 1, 1) := by decide +kernel
theorem dP_row_51 : decode bP_row 51 = .ok (.iload_n 2, 1) := by decide +kernel
theorem dP_row_52 : decode bP_row 52 = .ok (.lload_n 3, 1) := by decide +kernel
theorem dP_row_53 : decode bP_row 53 = .ok (.invokevirtual 94, 3) := by decide +kernel
theorem dP_row_56 : decode bP_row 56 = .ok (.ireturn, 1) := by decide +kernel
theorem dP_factor_0 : decode bP_factor 0 = .ok (.aload_n 0, 1) := by decide +kernel
theorem dP_factor_1 : decode bP_factor 1 = .ok (.iload_n 1, 1) := by decide +kernel
theorem dP_factor_2 : decode bP_factor 2 = .ok (.invokevirtual 98, 3) := by decide +kernel
theorem dP_factor_5 : decode bP_factor 5 = .ok (.aload_n 0, 1) := by decide +kernel
theorem dP_factor_6 : decode bP_factor 6 = .ok (.iload_n 2, 1) := by decide +kernel
theorem dP_factor_7 : decode bP_factor 7 = .ok (.invokevirtual 102, 3) := by decide +kernel
theorem dP_factor_10 : decode bP_factor 10 = .ok (.iload_n 1, 1) := by decide +kernel
theorem dP_factor_11 : decode bP_factor 11 = .ok (.aload_n 0, 1) := by decide +kernel
theorem dP_factor_12 : decode bP_factor 12 = .ok (.getfield 37, 3) := by decide +kernel
theorem dP_factor_15 : decode bP_factor 15 = .ok (.if_icmp .ge 13, 3) := by decide +kernel
theorem dP_factor_18 : decode bP_factor 18 = .ok (.new 65, 3) := by decide +kernel
theorem dP_factor_21 : decode bP_factor 21 = .ok (.dup, 1) := by decide +kernel
theorem dP_factor_22 : decode bP_factor 22 = .ok (.ldc 105, 2) := by decide +kernel
theorem dP_factor_24 : decode bP_factor 24 = .ok (.invokespecial 69, 3) := by decide +kernel
theorem dP_factor_27 : decode bP_factor 27 = .ok (.athrow, 1) := by decide +kernel
theorem dP_factor_28 : decode bP_factor 28 = .ok (.iload_n 3, 1) := by decide +kernel
theorem dP_factor_29 : decode bP_factor 29 = .ok (.sipush (-1000), 3) := by decide +kernel
theorem dP_factor_32 : decode bP_factor 32 = .ok (.if_icmp .lt 10, 3) := by decide +kernel
theorem dP_factor_35 : decode bP_factor 35 = .ok (.iload_n 3, 1) := by decide +kernel
theorem dP_factor_36 : decode bP_factor 36 = .ok (.sipush 1000, 3) := by decide +kernel
theorem dP_factor_39 : decode bP_factor 39 = .ok (.if_icmp .le 13, 3) := by decide +kernel
theorem dP_factor_42 : decode bP_factor 42 = .ok (.new 74, 3) := by decide +kernel
theorem dP_factor_45 : decode bP_factor 45 = .ok (.dup, 1) := by decide +kernel
theorem dP_factor_46 : decode bP_factor 46 = .ok (.ldc 107, 2) := by decide +kernel
theorem dP_factor_48 : decode bP_factor 48 = .ok (.invokespecial 78, 3) := by decide +kernel
theorem dP_factor_51 : decode bP_factor 51 = .ok (.athrow, 1) := by decide +kernel
theorem dP_factor_52 : decode bP_factor 52 = .ok (.aload_n 0, 1) := by decide +kernel
theorem dP_factor_53 : decode bP_factor 53 = .ok (.getfield 20, 3) := by decide +kernel
theorem dP_factor_56 : decode bP_factor 56 = .ok (.iload_n 1, 1) := by decide +kernel
theorem dP_factor_57 : decode bP_factor 57 = .ok (.iload_n 2, 1) := by decide +kernel
theorem dP_factor_58 : decode bP_factor 58 = .ok (.invokestatic 109, 3) := by decide +kernel
theorem dP_factor_61 : decode bP_factor 61 = .ok (.iaload, 1) := by decide +kernel
theorem dP_factor_62 : decode bP_factor 62 = .ok (.istore 4, 2) := by decide +kernel
theorem dP_factor_64 : decode bP_factor 64 = .ok (.aload_n 0, 1) := by decide +kernel
theorem dP_factor_65 : decode bP_factor 65 = .ok (.getfield 20, 3) := by decide +kernel
theorem dP_factor_68 : decode bP_factor 68 = .ok (.iload_n 1, 1) := by decide +kernel
theorem dP_factor_69 : decode bP_factor 69 = .ok (.iload_n 2, 1) := by decide +kernel
theorem dP_factor_70 : decode bP_factor 70 = .ok (.invokestatic 109, 3) := by decide +kernel
theorem dP_factor_73 : decode bP_factor 73 = .ok (.iload_n 3, 1) := by decide +kernel
theorem dP_factor_74 : decode bP_factor 74 = .ok (.iastore, 1) := by decide +kernel
theorem dP_factor_75 : decode bP_factor 75 = .ok (.iload 4, 2) := by decide +kernel
theorem dP_factor_77 : decode bP_factor 77 = .ok (.ireturn, 1) := by decide +kernel
theorem dP_cut_0 : decode bP_cut 0 = .ok (.aload_n 0, 1) := by decide +kernel
theorem dP_cut_1 : decode bP_cut 1 = .ok (.iload_n 1, 1) := by decide +kernel
theorem dP_cut_2 : decode bP_cut 2 = .ok (.invokevirtual 102, 3) := by decide +kernel
theorem dP_cut_5 : decode bP_cut 5 = .ok (.aload_n 0, 1) := by decide +kernel
theorem dP_cut_6 : decode bP_cut 6 = .ok (.iload_n 2, 1) := by decide +kernel
theorem dP_cut_7 : decode bP_cut 7 = .ok (.invokevirtual 102, 3) := by decide +kernel
theorem dP_cut_10 : decode bP_cut 10 = .ok (.aload_n 0, 1) := by decide +kernel
theorem dP_cut_11 : decode bP_cut 11 = .ok (.invokevirtual 83, 3) := by decide +kernel
theorem dP_cut_14 : decode bP_cut 14 = .ok (.iload_n 1, 1) := by decide +kernel
theorem dP_cut_15 : decode bP_cut 15 = .ok (.iload_n 2, 1) := by decide +kernel
theorem dP_cut_16 : decode bP_cut 16 = .ok (.if_icmp .ne 13, 3) := by decide +kernel
theorem dP_cut_19 : decode bP_cut 19 = .ok (.new 74, 3) := by decide +kernel
theorem dP_cut_22 : decode bP_cut 22 = .ok (.dup, 1) := by decide +kernel
theorem dP_cut_23 : decode bP_cut 23 = .ok (.ldc 112, 2) := by decide +kernel
theorem dP_cut_25 : decode bP_cut 25 = .ok (.invokespecial 78, 3) := by decide +kernel
theorem dP_cut_28 : decode bP_cut 28 = .ok (.athrow, 1) := by decide +kernel
theorem dP_cut_29 : decode bP_cut 29 = .ok (.aload_n 0, 1) := by decide +kernel
theorem dP_cut_30 : decode bP_cut 30 = .ok (.iconst 1, 1) := by decide +kernel
theorem dP_cut_31 : decode bP_cut 31 = .ok (.iconst 0, 1) := by decide +kernel
theorem dP_cut_32 : decode bP_cut 32 = .ok (.lconst 1, 1) := by decide +kernel
theorem dP_cut_33 : decode bP_cut 33 = .ok (.invokevirtual 94, 3) := by decide +kernel
theorem dP_cut_36 : decode bP_cut 36 = .ok (.istore_n 3, 1) := by decide +kernel
theorem dP_cut_37 : decode bP_cut 37 = .ok (.aload_n 0, 1) := by decide +kernel
theorem dP_cut_38 : decode bP_cut 38 = .ok (.getfield 20, 3) := by decide +kernel
theorem dP_cut_41 : decode bP_cut 41 = .ok (.iload_n 3, 1) := by decide +kernel
theorem dP_cut_42 : decode bP_cut 42 = .ok (.iload_n 1, 1) := by decide +kernel
theorem dP_cut_43 : decode bP_cut 43 = .ok (.invokestatic 109, 3) := by decide +kernel
theorem dP_cut_46 : decode bP_cut 46 = .ok (.iconst 1, 1) := by decide +kernel
theorem dP_cut_47 : decode bP_cut 47 = .ok (.iastore, 1) := by decide +kernel
theorem dP_cut_48 : decode bP_cut 48 = .ok (.aload_n 0, 1) := by decide +kernel
theorem dP_cut_49 : decode bP_cut 49 = .ok (.getfield 20, 3) := by decide +kernel
theorem dP_cut_52 : decode bP_cut 52 = .ok (.iload_n 3, 1) := by decide +kernel
theorem dP_cut_53 : decode bP_cut 53 = .ok (.iload_n 2, 1) := by decide +kernel
theorem dP_cut_54 : decode bP_cut 54 = .ok (.invokestatic 109, 3) := by decide +kernel
theorem dP_cut_57 : decode bP_cut 57 = .ok (.iconst 1, 1) := by decide +kernel
theorem dP_cut_58 : decode bP_cut 58 = .ok (.iastore, 1) := by decide +kernel
theorem dP_cut_59 : decode bP_cut 59 = .ok (.iload_n 3, 1) := by decide +kernel
theorem dP_cut_60 : decode bP_cut 60 = .ok (.ireturn, 1) := by decide +kernel
theorem dP_right_0 : decode bP_right 0 = .ok (.aload_n 0, 1) := by decide +kernel
theorem dP_right_1 : decode bP_right 1 = .ok (.iload_n 1, 1) := by decide +kernel
theorem dP_right_2 : decode bP_right 2 = .ok (.invokevirtual 98, 3) := by decide +kernel
theorem dP_right_5 : decode bP_right 5 = .ok (.lload_n 2, 1) := by decide +kernel
theorem dP_right_6 : decode bP_right 6 = .ok (.invokestatic 90, 3) := by decide +kernel
theorem dP_right_9 : decode bP_right 9 = .ok (.iload_n 1, 1) := by decide +kernel
theorem dP_right_10 : decode bP_right 10 = .ok (.aload_n 0, 1) := by decide +kernel
theorem dP_right_11 : decode bP_right 11 = .ok (.getfield 37, 3) := by decide +kernel
theorem dP_right_14 : decode bP_right 14 = .ok (.if_icmp .ge 21, 3) := by decide +kernel
theorem dP_right_17 : decode bP_right 17 = .ok (.aload_n 0, 1) := by decide +kernel
theorem dP_right_18 : decode bP_right 18 = .ok (.iload_n 1, 1) := by decide +kernel
theorem dP_right_19 : decode bP_right 19 = .ok (.lload_n 2, 1) := by decide +kernel
theorem dP_right_20 : decode bP_right 20 = .ok (.aload_n 0, 1) := by decide +kernel
theorem dP_right_21 : decode bP_right 21 = .ok (.getfield 16, 3) := by decide +kernel
theorem dP_right_24 : decode bP_right 24 = .ok (.iload_n 1, 1) := by decide +kernel
theorem dP_right_25 : decode bP_right 25 = .ok (.laload, 1) := by decide +kernel
theorem dP_right_26 : decode bP_right 26 = .ok (.lsub, 1) := by decide +kernel
theorem dP_right_27 : decode bP_right 27 = .ok (.invokevirtual 114, 3) := by decide +kernel
theorem dP_right_30 : decode bP_right 30 = .ok (.ifCond .ne 5, 3) := by decide +kernel
theorem dP_right_33 : decode bP_right 33 = .ok (.iconst 0, 1) := by decide +kernel
theorem dP_right_34 : decode bP_right 34 = .ok (.ireturn, 1) := by decide +kernel
theorem dP_right_35 : decode bP_right 35 = .ok (.aload_n 0, 1) := by decide +kernel
theorem dP_right_36 : decode bP_right 36 = .ok (.getfield 16, 3) := by decide +kernel
theorem dP_right_39 : decode bP_right 39 = .ok (.iload_n 1, 1) := by decide +kernel
theorem dP_right_40 : decode bP_right 40 = .ok (.lload_n 2, 1) := by decide +kernel
theorem dP_right_41 : decode bP_right 41 = .ok (.lastore, 1) := by decide +kernel
theorem dP_right_42 : decode bP_right 42 = .ok (.aload_n 0, 1) := by decide +kernel
theorem dP_right_43 : decode bP_right 43 = .ok (.iconst (-1), 1) := by decide +kernel
theorem dP_right_44 : decode bP_right 44 = .ok (.putfield 47, 3) := by decide +kernel
theorem dP_right_47 : decode bP_right 47 = .ok (.iconst 1, 1) := by decide +kernel
theorem dP_right_48 : decode bP_right 48 = .ok (.ireturn, 1) := by decide +kernel
theorem dP_run_0 : decode bP_run 0 = .ok (.iload_n 1, 1) := by decide +kernel
theorem dP_run_1 : decode bP_run 1 = .ok (.ifCond .lt 10, 3) := by decide +kernel
theorem dP_run_4 : decode bP_run 4 = .ok (.iload_n 1, 1) := by decide +kernel
theorem dP_run_5 : decode bP_run 5 = .ok (.sipush 1000, 3) := by decide +kernel
theorem dP_run_8 : decode bP_run 8 = .ok (.if_icmp .le 13, 3) := by decide +kernel
theorem dP_run_11 : decode bP_run 11 = .ok (.new 74, 3) := by decide +kernel
theorem dP_run_14 : decode bP_run 14 = .ok (.dup, 1) := by decide +kernel
theorem dP_run_15 : decode bP_run 15 = .ok (.ldc 118, 2) := by decide +kernel
theorem dP_run_17 : decode bP_run 17 = .ok (.invokespecial 78, 3) := by decide +kernel
theorem dP_run_20 : decode bP_run 20 = .ok (.athrow, 1) := by decide +kernel
theorem dP_run_21 : decode bP_run 21 = .ok (.aload_n 0, 1) := by decide +kernel
theorem dP_run_22 : decode bP_run 22 = .ok (.iconst 1, 1) := by decide +kernel
theorem dP_run_23 : decode bP_run 23 = .ok (.putfield 43, 3) := by decide +kernel
theorem dP_run_26 : decode bP_run 26 = .ok (.aload_n 0, 1) := by decide +kernel
theorem dP_run_27 : decode bP_run 27 = .ok (.aload_n 0, 1) := by decide +kernel
theorem dP_run_28 : decode bP_run 28 = .ok (.invokevirtual 120, 3) := by decide +kernel
theorem dP_run_31 : decode bP_run 31 = .ok (.ifCond .eq 11, 3) := by decide +kernel
theorem dP_run_34 : decode bP_run 34 = .ok (.aload_n 0, 1) := by decide +kernel
theorem dP_run_35 : decode bP_run 35 = .ok (.iload_n 1, 1) := by decide +kernel
theorem dP_run_36 : decode bP_run 36 = .ok (.invokevirtual 124, 3) := by decide +kernel
theorem dP_run_39 : decode bP_run 39 = .ok (.goto 4, 3) := by decide +kernel
theorem dP_run_42 : decode bP_run 42 = .ok (.iconst 3, 1) := by decide +kernel
theorem dP_run_43 : decode bP_run 43 = .ok (.putfield 47, 3) := by decide +kernel
theorem dP_run_46 : decode bP_run 46 = .ok (.aload_n 0, 1) := by decide +kernel
theorem dP_run_47 : decode bP_run 47 = .ok (.getfield 47, 3) := by decide +kernel
theorem dP_run_50 : decode bP_run 50 = .ok (.ireturn, 1) := by decide +kernel
theorem dP_value_0 : decode bP_value 0 = .ok (.iload_n 1, 1) := by decide +kernel
theorem dP_value_1 : decode bP_value 1 = .ok (.invokestatic 128, 3) := by decide +kernel
theorem dP_value_4 : decode bP_value 4 = .ok (.aload_n 0, 1) := by decide +kernel
theorem dP_value_5 : decode bP_value 5 = .ok (.getfield 29, 3) := by decide +kernel
theorem dP_value_8 : decode bP_value 8 = .ok (.iconst 0, 1) := by decide +kernel
theorem dP_value_9 : decode bP_value 9 = .ok (.iconst 0, 1) := by decide +kernel
theorem dP_value_10 : decode bP_value 10 = .ok (.invokevirtual 131, 3) := by decide +kernel
theorem dP_value_13 : decode bP_value 13 = .ok (.aload_n 0, 1) := by decide +kernel
theorem dP_value_14 : decode bP_value 14 = .ok (.getfield 29, 3) := by decide +kernel
theorem dP_value_17 : decode bP_value 17 = .ok (.getfield 135, 3) := by decide +kernel
theorem dP_value_20 : decode bP_value 20 = .ok (.iload_n 1, 1) := by decide +kernel
theorem dP_value_21 : decode bP_value 21 = .ok (.invokestatic 139, 3) := by decide +kernel
theorem dP_value_24 : decode bP_value 24 = .ok (.lreturn, 1) := by decide +kernel
theorem dP_share_0 : decode bP_share 0 = .ok (.aload_n 0, 1) := by decide +kernel
theorem dP_share_1 : decode bP_share 1 = .ok (.iload_n 1, 1) := by decide +kernel
theorem dP_share_2 : decode bP_share 2 = .ok (.invokevirtual 102, 3) := by decide +kernel
theorem dP_share_5 : decode bP_share 5 = .ok (.iload_n 2, 1) := by decide +kernel
theorem dP_share_6 : decode bP_share 6 = .ok (.invokestatic 128, 3) := by decide +kernel
theorem dP_share_9 : decode bP_share 9 = .ok (.aload_n 0, 1) := by decide +kernel
theorem dP_share_10 : decode bP_share 10 = .ok (.getfield 29, 3) := by decide +kernel
theorem dP_share_13 : decode bP_share 13 = .ok (.iload_n 1, 1) := by decide +kernel
theorem dP_share_14 : decode bP_share 14 = .ok (.invokevirtual 143, 3) := by decide +kernel
theorem dP_share_17 : decode bP_share 17 = .ok (.aload_n 0, 1) := by decide +kernel
theorem dP_share_18 : decode bP_share 18 = .ok (.getfield 29, 3) := by decide +kernel
theorem dP_share_21 : decode bP_share 21 = .ok (.getfield 135, 3) := by decide +kernel
theorem dP_share_24 : decode bP_share 24 = .ok (.iload_n 2, 1) := by decide +kernel
theorem dP_share_25 : decode bP_share 25 = .ok (.invokestatic 139, 3) := by decide +kernel
theorem dP_share_28 : decode bP_share 28 = .ok (.lreturn, 1) := by decide +kernel
theorem dP_dual_0 : decode bP_dual 0 = .ok (.aload_n 0, 1) := by decide +kernel
theorem dP_dual_1 : decode bP_dual 1 = .ok (.iload_n 1, 1) := by decide +kernel
theorem dP_dual_2 : decode bP_dual 2 = .ok (.invokevirtual 98, 3) := by decide +kernel
theorem dP_dual_5 : decode bP_dual 5 = .ok (.iload_n 2, 1) := by decide +kernel
theorem dP_dual_6 : decode bP_dual 6 = .ok (.invokestatic 128, 3) := by decide +kernel
theorem dP_dual_9 : decode bP_dual 9 = .ok (.lconst 0, 1) := by decide +kernel
theorem dP_dual_10 : decode bP_dual 10 = .ok (.lstore_n 3, 1) := by decide +kernel
theorem dP_dual_11 : decode bP_dual 11 = .ok (.iconst 0, 1) := by decide +kernel
theorem dP_dual_12 : decode bP_dual 12 = .ok (.istore 5, 2) := by decide +kernel
theorem dP_dual_14 : decode bP_dual 14 = .ok (.iload 5, 2) := by decide +kernel
theorem dP_dual_16 : decode bP_dual 16 = .ok (.aload_n 0, 1) := by decide +kernel
theorem dP_dual_17 : decode bP_dual 17 = .ok (.iload_n 1, 1) := by decide +kernel
theorem dP_dual_18 : decode bP_dual 18 = .ok (.invokevirtual 147, 3) := by decide +kernel
theorem dP_dual_21 : decode bP_dual 21 = .ok (.if_icmp .ge 36, 3) := by decide +kernel
theorem dP_dual_24 : decode bP_dual 24 = .ok (.lload_n 3, 1) := by decide +kernel
theorem dP_dual_25 : decode bP_dual 25 = .ok (.aload_n 0, 1) := by decide +kernel
theorem dP_dual_26 : decode bP_dual 26 = .ok (.iload_n 1, 1) := by decide +kernel
theorem dP_dual_27 : decode bP_dual 27 = .ok (.iload 5, 2) := by decide +kernel
theorem dP_dual_29 : decode bP_dual 29 = .ok (.invokevirtual 150, 3) := by decide +kernel
theorem dP_dual_32 : decode bP_dual 32 = .ok (.i2l, 1) := by decide +kernel
theorem dP_dual_33 : decode bP_dual 33 = .ok (.aload_n 0, 1) := by decide +kernel
theorem dP_dual_34 : decode bP_dual 34 = .ok (.getfield 29, 3) := by decide +kernel
theorem dP_dual_37 : decode bP_dual 37 = .ok (.iconst 0, 1) := by decide +kernel
theorem dP_dual_38 : decode bP_dual 38 = .ok (.aload_n 0, 1) := by decide +kernel
theorem dP_dual_39 : decode bP_dual 39 = .ok (.iload_n 1, 1) := by decide +kernel
theorem dP_dual_40 : decode bP_dual 40 = .ok (.iload 5, 2) := by decide +kernel
theorem dP_dual_42 : decode bP_dual 42 = .ok (.invokevirtual 153, 3) := by decide +kernel
theorem dP_dual_45 : decode bP_dual 45 = .ok (.invokevirtual 156, 3) := by decide +kernel
theorem dP_dual_48 : decode bP_dual 48 = .ok (.lmul, 1) := by decide +kernel
theorem dP_dual_49 : decode bP_dual 49 = .ok (.ladd, 1) := by decide +kernel
theorem dP_dual_50 : decode bP_dual 50 = .ok (.lstore_n 3, 1) := by decide +kernel
theorem dP_dual_51 : decode bP_dual 51 = .ok (.iinc 5 1, 3) := by decide +kernel
theorem dP_dual_54 : decode bP_dual 54 = .ok (.goto (-40), 3) := by decide +kernel
theorem dP_dual_57 : decode bP_dual 57 = .ok (.lload_n 3, 1) := by decide +kernel
theorem dP_dual_58 : decode bP_dual 58 = .ok (.aload_n 0, 1) := by decide +kernel
theorem dP_dual_59 : decode bP_dual 59 = .ok (.getfield 29, 3) := by decide +kernel
theorem dP_dual_62 : decode bP_dual 62 = .ok (.getfield 135, 3) := by decide +kernel
theorem dP_dual_65 : decode bP_dual 65 = .ok (.iload_n 2, 1) := by decide +kernel
theorem dP_dual_66 : decode bP_dual 66 = .ok (.invokestatic 139, 3) := by decide +kernel
theorem dP_dual_69 : decode bP_dual 69 = .ok (.lreturn, 1) := by decide +kernel
theorem dP_factorOf_0 : decode bP_factorOf 0 = .ok (.aload_n 0, 1) := by decide +kernel
theorem dP_factorOf_1 : decode bP_factorOf 1 = .ok (.iload_n 1, 1) := by decide +kernel
theorem dP_factorOf_2 : decode bP_factorOf 2 = .ok (.invokevirtual 98, 3) := by decide +kernel
theorem dP_factorOf_5 : decode bP_factorOf 5 = .ok (.aload_n 0, 1) := by decide +kernel
theorem dP_factorOf_6 : decode bP_factorOf 6 = .ok (.getfield 47, 3) := by decide +kernel
theorem dP_factorOf_9 : decode bP_factorOf 9 = .ok (.iconst 1, 1) := by decide +kernel
theorem dP_factorOf_10 : decode bP_factorOf 10 = .ok (.if_icmp .eq 13, 3) := by decide +kernel
theorem dP_factorOf_13 : decode bP_factorOf 13 = .ok (.new 65, 3) := by decide +kernel
theorem dP_factorOf_16 : decode bP_factorOf 16 = .ok (.dup, 1) := by decide +kernel
theorem dP_factorOf_17 : decode bP_factorOf 17 = .ok (.ldc 159, 2) := by decide +kernel
theorem dP_factorOf_19 : decode bP_factorOf 19 = .ok (.invokespecial 69, 3) := by decide +kernel
theorem dP_factorOf_22 : decode bP_factorOf 22 = .ok (.athrow, 1) := by decide +kernel
theorem dP_factorOf_23 : decode bP_factorOf 23 = .ok (.iload_n 2, 1) := by decide +kernel
theorem dP_factorOf_24 : decode bP_factorOf 24 = .ok (.invokestatic 128, 3) := by decide +kernel
theorem dP_factorOf_27 : decode bP_factorOf 27 = .ok (.aload_n 0, 1) := by decide +kernel
theorem dP_factorOf_28 : decode bP_factorOf 28 = .ok (.getfield 29, 3) := by decide +kernel
theorem dP_factorOf_31 : decode bP_factorOf 31 = .ok (.invokevirtual 161, 3) := by decide +kernel
theorem dP_factorOf_34 : decode bP_factorOf 34 = .ok (.istore_n 3, 1) := by decide +kernel
theorem dP_factorOf_35 : decode bP_factorOf 35 = .ok (.lconst 0, 1) := by decide +kernel
theorem dP_factorOf_36 : decode bP_factorOf 36 = .ok (.lstore 4, 2) := by decide +kernel
theorem dP_factorOf_38 : decode bP_factorOf 38 = .ok (.iconst 0, 1) := by decide +kernel
theorem dP_factorOf_39 : decode bP_factorOf 39 = .ok (.istore 6, 2) := by decide +kernel
theorem dP_factorOf_41 : decode bP_factorOf 41 = .ok (.iload 6, 2) := by decide +kernel
theorem dP_factorOf_43 : decode bP_factorOf 43 = .ok (.aload_n 0, 1) := by decide +kernel
theorem dP_factorOf_44 : decode bP_factorOf 44 = .ok (.iload_n 1, 1) := by decide +kernel
theorem dP_factorOf_45 : decode bP_factorOf 45 = .ok (.invokevirtual 147, 3) := by decide +kernel
theorem dP_factorOf_48 : decode bP_factorOf 48 = .ok (.if_icmp .ge 35, 3) := by decide +kernel
theorem dP_factorOf_51 : decode bP_factorOf 51 = .ok (.lload 4, 2) := by decide +kernel
theorem dP_factorOf_53 : decode bP_factorOf 53 = .ok (.aload_n 0, 1) := by decide +kernel
theorem dP_factorOf_54 : decode bP_factorOf 54 = .ok (.iload_n 1, 1) := by decide +kernel
theorem dP_factorOf_55 : decode bP_factorOf 55 = .ok (.iload 6, 2) := by decide +kernel
theorem dP_factorOf_57 : decode bP_factorOf 57 = .ok (.invokevirtual 150, 3) := by decide +kernel
theorem dP_factorOf_60 : decode bP_factorOf 60 = .ok (.i2l, 1) := by decide +kernel
theorem dP_factorOf_61 : decode bP_factorOf 61 = .ok (.aload_n 0, 1) := by decide +kernel
theorem dP_factorOf_62 : decode bP_factorOf 62 = .ok (.iload_n 3, 1) := by decide +kernel
theorem dP_factorOf_63 : decode bP_factorOf 63 = .ok (.aload_n 0, 1) := by decide +kernel
theorem dP_factorOf_64 : decode bP_factorOf 64 = .ok (.iload_n 1, 1) := by decide +kernel
theorem dP_factorOf_65 : decode bP_factorOf 65 = .ok (.iload 6, 2) := by decide +kernel
theorem dP_factorOf_67 : decode bP_factorOf 67 = .ok (.invokevirtual 153, 3) := by decide +kernel
theorem dP_factorOf_70 : decode bP_factorOf 70 = .ok (.invokevirtual 165, 3) := by decide +kernel
theorem dP_factorOf_73 : decode bP_factorOf 73 = .ok (.lmul, 1) := by decide +kernel
theorem dP_factorOf_74 : decode bP_factorOf 74 = .ok (.ladd, 1) := by decide +kernel
theorem dP_factorOf_75 : decode bP_factorOf 75 = .ok (.lstore 4, 2) := by decide +kernel
theorem dP_factorOf_77 : decode bP_factorOf 77 = .ok (.iinc 6 1, 3) := by decide +kernel
theorem dP_factorOf_80 : decode bP_factorOf 80 = .ok (.goto (-39), 3) := by decide +kernel
theorem dP_factorOf_83 : decode bP_factorOf 83 = .ok (.lload 4, 2) := by decide +kernel
theorem dP_factorOf_85 : decode bP_factorOf 85 = .ok (.aload_n 0, 1) := by decide +kernel
theorem dP_factorOf_86 : decode bP_factorOf 86 = .ok (.getfield 29, 3) := by decide +kernel
theorem dP_factorOf_89 : decode bP_factorOf 89 = .ok (.getfield 135, 3) := by decide +kernel
theorem dP_factorOf_92 : decode bP_factorOf 92 = .ok (.iload_n 2, 1) := by decide +kernel
theorem dP_factorOf_93 : decode bP_factorOf 93 = .ok (.invokestatic 139, 3) := by decide +kernel
theorem dP_factorOf_96 : decode bP_factorOf 96 = .ok (.lreturn, 1) := by decide +kernel
theorem dP_check_0 : decode bP_check 0 = .ok (.iconst 0, 1) := by decide +kernel
theorem dP_check_1 : decode bP_check 1 = .ok (.istore_n 1, 1) := by decide +kernel
theorem dP_check_2 : decode bP_check 2 = .ok (.iload_n 1, 1) := by decide +kernel
theorem dP_check_3 : decode bP_check 3 = .ok (.aload_n 0, 1) := by decide +kernel
theorem dP_check_4 : decode bP_check 4 = .ok (.getfield 33, 3) := by decide +kernel
theorem dP_check_7 : decode bP_check 7 = .ok (.if_icmp .ge 21, 3) := by decide +kernel
theorem dP_check_10 : decode bP_check 10 = .ok (.aload_n 0, 1) := by decide +kernel
theorem dP_check_11 : decode bP_check 11 = .ok (.iload_n 1, 1) := by decide +kernel
theorem dP_check_12 : decode bP_check 12 = .ok (.invokevirtual 168, 3) := by decide +kernel
theorem dP_check_15 : decode bP_check 15 = .ok (.ifCond .ne 7, 3) := by decide +kernel
theorem dP_check_18 : decode bP_check 18 = .ok (.iload_n 1, 1) := by decide +kernel
theorem dP_check_19 : decode bP_check 19 = .ok (.iconst 1, 1) := by decide +kernel
theorem dP_check_20 : decode bP_check 20 = .ok (.iadd, 1) := by decide +kernel
theorem dP_check_21 : decode bP_check 21 = .ok (.ireturn, 1) := by decide +kernel
theorem dP_check_22 : decode bP_check 22 = .ok (.iinc 1 1, 3) := by decide +kernel
theorem dP_check_25 : decode bP_check 25 = .ok (.goto (-23), 3) := by decide +kernel
theorem dP_check_28 : decode bP_check 28 = .ok (.iconst 0, 1) := by decide +kernel
theorem dP_check_29 : decode bP_check 29 = .ok (.ireturn, 1) := by decide +kernel
theorem dP_steps_0 : decode bP_steps 0 = .ok (.aload_n 0, 1) := by decide +kernel
theorem dP_steps_1 : decode bP_steps 1 = .ok (.getfield 40, 3) := by decide +kernel
theorem dP_steps_4 : decode bP_steps 4 = .ok (.ireturn, 1) := by decide +kernel
theorem dP_count_0 : decode bP_count 0 = .ok (.iload_n 1, 1) := by decide +kernel
theorem dP_count_1 : decode bP_count 1 = .ok (.tableswitch 70 0 4 #[35, 43, 48, 56, 65], 35) := by decide +kernel
theorem dP_count_36 : decode bP_count 36 = .ok (.aload_n 0, 1) := by decide +kernel
theorem dP_count_37 : decode bP_count 37 = .ok (.getfield 29, 3) := by decide +kernel
theorem dP_count_40 : decode bP_count 40 = .ok (.getfield 62, 3) := by decide +kernel
theorem dP_count_43 : decode bP_count 43 = .ok (.ireturn, 1) := by decide +kernel
theorem dP_count_44 : decode bP_count 44 = .ok (.aload_n 0, 1) := by decide +kernel
theorem dP_count_45 : decode bP_count 45 = .ok (.getfield 33, 3) := by decide +kernel
theorem dP_count_48 : decode bP_count 48 = .ok (.ireturn, 1) := by decide +kernel
theorem dP_count_49 : decode bP_count 49 = .ok (.aload_n 0, 1) := by decide +kernel
theorem dP_count_50 : decode bP_count 50 = .ok (.getfield 29, 3) := by decide +kernel
theorem dP_count_53 : decode bP_count 53 = .ok (.getfield 172, 3) := by decide +kernel
theorem dP_count_56 : decode bP_count 56 = .ok (.ireturn, 1) := by decide +kernel
theorem dP_count_57 : decode bP_count 57 = .ok (.aload_n 0, 1) := by decide +kernel
theorem dP_count_58 : decode bP_count 58 = .ok (.getfield 29, 3) := by decide +kernel
theorem dP_count_61 : decode bP_count 61 = .ok (.getfield 135, 3) := by decide +kernel
theorem dP_count_64 : decode bP_count 64 = .ok (.l2i, 1) := by decide +kernel
theorem dP_count_65 : decode bP_count 65 = .ok (.ireturn, 1) := by decide +kernel
theorem dP_count_66 : decode bP_count 66 = .ok (.aload_n 0, 1) := by decide +kernel
theorem dP_count_67 : decode bP_count 67 = .ok (.getfield 59, 3) := by decide +kernel
theorem dP_count_70 : decode bP_count 70 = .ok (.ireturn, 1) := by decide +kernel
theorem dP_count_71 : decode bP_count 71 = .ok (.iload_n 1, 1) := by decide +kernel
theorem dP_count_72 : decode bP_count 72 = .ok (.iconst 5, 1) := by decide +kernel
theorem dP_count_73 : decode bP_count 73 = .ok (.if_icmp .lt 23, 3) := by decide +kernel
theorem dP_count_76 : decode bP_count 76 = .ok (.iload_n 1, 1) := by decide +kernel
theorem dP_count_77 : decode bP_count 77 = .ok (.iconst 5, 1) := by decide +kernel
theorem dP_count_78 : decode bP_count 78 = .ok (.isub, 1) := by decide +kernel
theorem dP_count_79 : decode bP_count 79 = .ok (.aload_n 0, 1) := by decide +kernel
theorem dP_count_80 : decode bP_count 80 = .ok (.getfield 59, 3) := by decide +kernel
theorem dP_count_83 : decode bP_count 83 = .ok (.if_icmp .ge 13, 3) := by decide +kernel
theorem dP_count_86 : decode bP_count 86 = .ok (.aload_n 0, 1) := by decide +kernel
theorem dP_count_87 : decode bP_count 87 = .ok (.iload_n 1, 1) := by decide +kernel
theorem dP_count_88 : decode bP_count 88 = .ok (.iconst 5, 1) := by decide +kernel
theorem dP_count_89 : decode bP_count 89 = .ok (.isub, 1) := by decide +kernel
theorem dP_count_90 : decode bP_count 90 = .ok (.invokevirtual 175, 3) := by decide +kernel
theorem dP_count_93 : decode bP_count 93 = .ok (.goto 4, 3) := by decide +kernel
theorem dP_count_96 : decode bP_count 96 = .ok (.iconst (-1), 1) := by decide +kernel
theorem dP_count_97 : decode bP_count 97 = .ok (.ireturn, 1) := by decide +kernel
theorem dP_needColumn_0 : decode bP_needColumn 0 = .ok (.iload_n 1, 1) := by decide +kernel
theorem dP_needColumn_1 : decode bP_needColumn 1 = .ok (.ifCond .lt 14, 3) := by decide +kernel
theorem dP_needColumn_4 : decode bP_needColumn 4 = .ok (.iload_n 1, 1) := by decide +kernel
theorem dP_needColumn_5 : decode bP_needColumn 5 = .ok (.aload_n 0, 1) := by decide +kernel
theorem dP_needColumn_6 : decode bP_needColumn 6 = .ok (.getfield 29, 3) := by decide +kernel
theorem dP_needColumn_9 : decode bP_needColumn 9 = .ok (.getfield 62, 3) := by decide +kernel
theorem dP_needColumn_12 : decode bP_needColumn 12 = .ok (.if_icmp .lt 13, 3) := by decide +kernel
theorem dP_needColumn_15 : decode bP_needColumn 15 = .ok (.new 178, 3) := by decide +kernel
theorem dP_needColumn_18 : decode bP_needColumn 18 = .ok (.dup, 1) := by decide +kernel
theorem dP_needColumn_19 : decode bP_needColumn 19 = .ok (.ldc 180, 2) := by decide +kernel
theorem dP_needColumn_21 : decode bP_needColumn 21 = .ok (.invokespecial 182, 3) := by decide +kernel
theorem dP_needColumn_24 : decode bP_needColumn 24 = .ok (.athrow, 1) := by decide +kernel
theorem dP_needColumn_25 : decode bP_needColumn 25 = .ok (.return_, 1) := by decide +kernel
theorem dP_needRow_0 : decode bP_needRow 0 = .ok (.iload_n 1, 1) := by decide +kernel
theorem dP_needRow_1 : decode bP_needRow 1 = .ok (.ifCond .lt 11, 3) := by decide +kernel
theorem dP_needRow_4 : decode bP_needRow 4 = .ok (.iload_n 1, 1) := by decide +kernel
theorem dP_needRow_5 : decode bP_needRow 5 = .ok (.aload_n 0, 1) := by decide +kernel
theorem dP_needRow_6 : decode bP_needRow 6 = .ok (.getfield 33, 3) := by decide +kernel
theorem dP_needRow_9 : decode bP_needRow 9 = .ok (.if_icmp .lt 13, 3) := by decide +kernel
theorem dP_needRow_12 : decode bP_needRow 12 = .ok (.new 178, 3) := by decide +kernel
theorem dP_needRow_15 : decode bP_needRow 15 = .ok (.dup, 1) := by decide +kernel
theorem dP_needRow_16 : decode bP_needRow 16 = .ok (.ldc 183, 2) := by decide +kernel
theorem dP_needRow_18 : decode bP_needRow 18 = .ok (.invokespecial 182, 3) := by decide +kernel
theorem dP_needRow_21 : decode bP_needRow 21 = .ok (.athrow, 1) := by decide +kernel
theorem dP_needRow_22 : decode bP_needRow 22 = .ok (.return_, 1) := by decide +kernel
theorem dP_needRoomForRow_0 : decode bP_needRoomForRow 0 = .ok (.aload_n 0, 1) := by decide +kernel
theorem dP_needRoomForRow_1 : decode bP_needRoomForRow 1 = .ok (.getfield 33, 3) := by decide +kernel
theorem dP_needRoomForRow_4 : decode bP_needRoomForRow 4 = .ok (.bipush 12, 2) := by decide +kernel
theorem dP_needRoomForRow_6 : decode bP_needRoomForRow 6 = .ok (.if_icmp .lt 13, 3) := by decide +kernel
theorem dP_needRoomForRow_9 : decode bP_needRoomForRow 9 = .ok (.new 65, 3) := by decide +kernel
theorem dP_needRoomForRow_12 : decode bP_needRoomForRow 12 = .ok (.dup, 1) := by decide +kernel
theorem dP_needRoomForRow_13 : decode bP_needRoomForRow 13 = .ok (.ldc 185, 2) := by decide +kernel
theorem dP_needRoomForRow_15 : decode bP_needRoomForRow 15 = .ok (.invokespecial 69, 3) := by decide +kernel
theorem dP_needRoomForRow_18 : decode bP_needRoomForRow 18 = .ok (.athrow, 1) := by decide +kernel
theorem dP_needRoomForRow_19 : decode bP_needRoomForRow 19 = .ok (.return_, 1) := by decide +kernel
theorem dP_needRight_0 : decode bP_needRight 0 = .ok (.lload_n 0, 1) := by decide +kernel
theorem dP_needRight_1 : decode bP_needRight 1 = .ok (.ldc2_w 187, 3) := by decide +kernel
theorem dP_needRight_4 : decode bP_needRight 4 = .ok (.lcmp, 1) := by decide +kernel
theorem dP_needRight_5 : decode bP_needRight 5 = .ok (.ifCond .lt 11, 3) := by decide +kernel
theorem dP_needRight_8 : decode bP_needRight 8 = .ok (.lload_n 0, 1) := by decide +kernel
theorem dP_needRight_9 : decode bP_needRight 9 = .ok (.ldc2_w 189, 3) := by decide +kernel
theorem dP_needRight_12 : decode bP_needRight 12 = .ok (.lcmp, 1) := by decide +kernel
theorem dP_needRight_13 : decode bP_needRight 13 = .ok (.ifCond .le 13, 3) := by decide +kernel
theorem dP_needRight_16 : decode bP_needRight 16 = .ok (.new 74, 3) := by decide +kernel
theorem dP_needRight_19 : decode bP_needRight 19 = .ok (.dup, 1) := by decide +kernel
theorem dP_needRight_20 : decode bP_needRight 20 = .ok (.ldc 191, 2) := by decide +kernel
theorem dP_needRight_22 : decode bP_needRight 22 = .ok (.invokespecial 78, 3) := by decide +kernel
theorem dP_needRight_25 : decode bP_needRight 25 = .ok (.athrow, 1) := by decide +kernel
theorem dP_needRight_26 : decode bP_needRight 26 = .ok (.return_, 1) := by decide +kernel
theorem dP_needPart_0 : decode bP_needPart 0 = .ok (.iload_n 0, 1) := by decide +kernel
theorem dP_needPart_1 : decode bP_needPart 1 = .ok (.ifCond .eq 18, 3) := by decide +kernel
theorem dP_needPart_4 : decode bP_needPart 4 = .ok (.iload_n 0, 1) := by decide +kernel
theorem dP_needPart_5 : decode bP_needPart 5 = .ok (.iconst 1, 1) := by decide +kernel
theorem dP_needPart_6 : decode bP_needPart 6 = .ok (.if_icmp .eq 13, 3) := by decide +kernel
theorem dP_needPart_9 : decode bP_needPart 9 = .ok (.new 74, 3) := by decide +kernel
theorem dP_needPart_12 : decode bP_needPart 12 = .ok (.dup, 1) := by decide +kernel
theorem dP_needPart_13 : decode bP_needPart 13 = .ok (.ldc 193, 2) := by decide +kernel
theorem dP_needPart_15 : decode bP_needPart 15 = .ok (.invokespecial 78, 3) := by decide +kernel
theorem dP_needPart_18 : decode bP_needPart 18 = .ok (.athrow, 1) := by decide +kernel
theorem dP_needPart_19 : decode bP_needPart 19 = .ok (.return_, 1) := by decide +kernel
theorem dP_addRow_0 : decode bP_addRow 0 = .ok (.aload_n 0, 1) := by decide +kernel
theorem dP_addRow_1 : decode bP_addRow 1 = .ok (.getfield 33, 3) := by decide +kernel
theorem dP_addRow_4 : decode bP_addRow 4 = .ok (.istore 5, 2) := by decide +kernel
theorem dP_addRow_6 : decode bP_addRow 6 = .ok (.aload_n 0, 1) := by decide +kernel
theorem dP_addRow_7 : decode bP_addRow 7 = .ok (.getfield 9, 3) := by decide +kernel
theorem dP_addRow_10 : decode bP_addRow 10 = .ok (.iload 5, 2) := by decide +kernel
theorem dP_addRow_12 : decode bP_addRow 12 = .ok (.iload_n 1, 1) := by decide +kernel
theorem dP_addRow_13 : decode bP_addRow 13 = .ok (.iastore, 1) := by decide +kernel
theorem dP_addRow_14 : decode bP_addRow 14 = .ok (.aload_n 0, 1) := by decide +kernel
theorem dP_addRow_15 : decode bP_addRow 15 = .ok (.getfield 13, 3) := by decide +kernel
theorem dP_addRow_18 : decode bP_addRow 18 = .ok (.iload 5, 2) := by decide +kernel
theorem dP_addRow_20 : decode bP_addRow 20 = .ok (.iload_n 2, 1) := by decide +kernel
theorem dP_addRow_21 : decode bP_addRow 21 = .ok (.iastore, 1) := by decide +kernel
theorem dP_addRow_22 : decode bP_addRow 22 = .ok (.aload_n 0, 1) := by decide +kernel
theorem dP_addRow_23 : decode bP_addRow 23 = .ok (.getfield 16, 3) := by decide +kernel
theorem dP_addRow_26 : decode bP_addRow 26 = .ok (.iload 5, 2) := by decide +kernel
theorem dP_addRow_28 : decode bP_addRow 28 = .ok (.lload_n 3, 1) := by decide +kernel
theorem dP_addRow_29 : decode bP_addRow 29 = .ok (.lastore, 1) := by decide +kernel
theorem dP_addRow_30 : decode bP_addRow 30 = .ok (.aload_n 0, 1) := by decide +kernel
theorem dP_addRow_31 : decode bP_addRow 31 = .ok (.dup, 1) := by decide +kernel
theorem dP_addRow_32 : decode bP_addRow 32 = .ok (.getfield 33, 3) := by decide +kernel
theorem dP_addRow_35 : decode bP_addRow 35 = .ok (.iconst 1, 1) := by decide +kernel
theorem dP_addRow_36 : decode bP_addRow 36 = .ok (.iadd, 1) := by decide +kernel
theorem dP_addRow_37 : decode bP_addRow 37 = .ok (.putfield 33, 3) := by decide +kernel
theorem dP_addRow_40 : decode bP_addRow 40 = .ok (.iload 5, 2) := by decide +kernel
theorem dP_addRow_42 : decode bP_addRow 42 = .ok (.ireturn, 1) := by decide +kernel
theorem dP_factorPlace_0 : decode bP_factorPlace 0 = .ok (.iload_n 0, 1) := by decide +kernel
theorem dP_factorPlace_1 : decode bP_factorPlace 1 = .ok (.bipush 12, 2) := by decide +kernel
theorem dP_factorPlace_3 : decode bP_factorPlace 3 = .ok (.imul, 1) := by decide +kernel
theorem dP_factorPlace_4 : decode bP_factorPlace 4 = .ok (.iload_n 1, 1) := by decide +kernel
theorem dP_factorPlace_5 : decode bP_factorPlace 5 = .ok (.iadd, 1) := by decide +kernel
theorem dP_factorPlace_6 : decode bP_factorPlace 6 = .ok (.ireturn, 1) := by decide +kernel
theorem dP_rowsOfWeek_0 : decode bP_rowsOfWeek 0 = .ok (.iconst 0, 1) := by decide +kernel
theorem dP_rowsOfWeek_1 : decode bP_rowsOfWeek 1 = .ok (.istore_n 2, 1) := by decide +kernel
theorem dP_rowsOfWeek_2 : decode bP_rowsOfWeek 2 = .ok (.iconst 0, 1) := by decide +kernel
theorem dP_rowsOfWeek_3 : decode bP_rowsOfWeek 3 = .ok (.istore_n 3, 1) := by decide +kernel
theorem dP_rowsOfWeek_4 : decode bP_rowsOfWeek 4 = .ok (.iload_n 3, 1) := by decide +kernel
theorem dP_rowsOfWeek_5 : decode bP_rowsOfWeek 5 = .ok (.aload_n 0, 1) := by decide +kernel
theorem dP_rowsOfWeek_6 : decode bP_rowsOfWeek 6 = .ok (.getfield 33, 3) := by decide +kernel
theorem dP_rowsOfWeek_9 : decode bP_rowsOfWeek 9 = .ok (.if_icmp .ge 22, 3) := by decide +kernel
theorem dP_rowsOfWeek_12 : decode bP_rowsOfWeek 12 = .ok (.aload_n 0, 1) := by decide +kernel
theorem dP_rowsOfWeek_13 : decode bP_rowsOfWeek 13 = .ok (.getfield 13, 3) := by decide +kernel
theorem dP_rowsOfWeek_16 : decode bP_rowsOfWeek 16 = .ok (.iload_n 3, 1) := by decide +kernel
theorem dP_rowsOfWeek_17 : decode bP_rowsOfWeek 17 = .ok (.iaload, 1) := by decide +kernel
theorem dP_rowsOfWeek_18 : decode bP_rowsOfWeek 18 = .ok (.iload_n 1, 1) := by decide +kernel
theorem dP_rowsOfWeek_19 : decode bP_rowsOfWeek 19 = .ok (.if_icmp .ne 6, 3) := by decide +kernel
theorem dP_rowsOfWeek_22 : decode bP_rowsOfWeek 22 = .ok (.iinc 2 1, 3) := by decide +kernel
theorem dP_rowsOfWeek_25 : decode bP_rowsOfWeek 25 = .ok (.iinc 3 1, 3) := by decide +kernel
theorem dP_rowsOfWeek_28 : decode bP_rowsOfWeek 28 = .ok (.goto (-24), 3) := by decide +kernel
theorem dP_rowsOfWeek_31 : decode bP_rowsOfWeek 31 = .ok (.iload_n 2, 1) := by decide +kernel
theorem dP_rowsOfWeek_32 : decode bP_rowsOfWeek 32 = .ok (.ireturn, 1) := by decide +kernel
theorem dP_isKept_0 : decode bP_isKept 0 = .ok (.aload_n 0, 1) := by decide +kernel
theorem dP_isKept_1 : decode bP_isKept 1 = .ok (.getfield 29, 3) := by decide +kernel
theorem dP_isKept_4 : decode bP_isKept 4 = .ok (.aload_n 0, 1) := by decide +kernel
theorem dP_isKept_5 : decode bP_isKept 5 = .ok (.getfield 20, 3) := by decide +kernel
theorem dP_isKept_8 : decode bP_isKept 8 = .ok (.iload_n 1, 1) := by decide +kernel
theorem dP_isKept_9 : decode bP_isKept 9 = .ok (.iconst 0, 1) := by decide +kernel
theorem dP_isKept_10 : decode bP_isKept 10 = .ok (.invokestatic 109, 3) := by decide +kernel
theorem dP_isKept_13 : decode bP_isKept 13 = .ok (.invokevirtual 195, 3) := by decide +kernel
theorem dP_isKept_16 : decode bP_isKept 16 = .ok (.aload_n 0, 1) := by decide +kernel
theorem dP_isKept_17 : decode bP_isKept 17 = .ok (.getfield 29, 3) := by decide +kernel
theorem dP_isKept_20 : decode bP_isKept 20 = .ok (.getfield 135, 3) := by decide +kernel
theorem dP_isKept_23 : decode bP_isKept 23 = .ok (.aload_n 0, 1) := by decide +kernel
theorem dP_isKept_24 : decode bP_isKept 24 = .ok (.getfield 16, 3) := by decide +kernel
theorem dP_isKept_27 : decode bP_isKept 27 = .ok (.iload_n 1, 1) := by decide +kernel
theorem dP_isKept_28 : decode bP_isKept 28 = .ok (.laload, 1) := by decide +kernel
theorem dP_isKept_29 : decode bP_isKept 29 = .ok (.lmul, 1) := by decide +kernel
theorem dP_isKept_30 : decode bP_isKept 30 = .ok (.lsub, 1) := by decide +kernel
theorem dP_isKept_31 : decode bP_isKept 31 = .ok (.lstore_n 2, 1) := by decide +kernel
theorem dP_isKept_32 : decode bP_isKept 32 = .ok (.aload_n 0, 1) := by decide +kernel
theorem dP_isKept_33 : decode bP_isKept 33 = .ok (.getfield 9, 3) := by decide +kernel
theorem dP_isKept_36 : decode bP_isKept 36 = .ok (.iload_n 1, 1) := by decide +kernel
theorem dP_isKept_37 : decode bP_isKept 37 = .ok (.iaload, 1) := by decide +kernel
theorem dP_isKept_38 : decode bP_isKept 38 = .ok (.ifCond .ne 15, 3) := by decide +kernel
theorem dP_isKept_41 : decode bP_isKept 41 = .ok (.lload_n 2, 1) := by decide +kernel
theorem dP_isKept_42 : decode bP_isKept 42 = .ok (.lconst 0, 1) := by decide +kernel
theorem dP_isKept_43 : decode bP_isKept 43 = .ok (.lcmp, 1) := by decide +kernel
theorem dP_isKept_44 : decode bP_isKept 44 = .ok (.ifCond .lt 7, 3) := by decide +kernel
theorem dP_isKept_47 : decode bP_isKept 47 = .ok (.iconst 1, 1) := by decide +kernel
theorem dP_isKept_48 : decode bP_isKept 48 = .ok (.goto 4, 3) := by decide +kernel
theorem dP_isKept_51 : decode bP_isKept 51 = .ok (.iconst 0, 1) := by decide +kernel
theorem dP_isKept_52 : decode bP_isKept 52 = .ok (.ireturn, 1) := by decide +kernel
theorem dP_isKept_53 : decode bP_isKept 53 = .ok (.aload_n 0, 1) := by decide +kernel
theorem dP_isKept_54 : decode bP_isKept 54 = .ok (.getfield 9, 3) := by decide +kernel
theorem dP_isKept_57 : decode bP_isKept 57 = .ok (.iload_n 1, 1) := by decide +kernel
theorem dP_isKept_58 : decode bP_isKept 58 = .ok (.iaload, 1) := by decide +kernel
theorem dP_isKept_59 : decode bP_isKept 59 = .ok (.iconst 1, 1) := by decide +kernel
theorem dP_isKept_60 : decode bP_isKept 60 = .ok (.if_icmp .ne 17, 3) := by decide +kernel
theorem dP_isKept_63 : decode bP_isKept 63 = .ok (.lload_n 2, 1) := by decide +kernel
theorem dP_isKept_64 : decode bP_isKept 64 = .ok (.lconst 0, 1) := by decide +kernel
theorem dP_isKept_65 : decode bP_isKept 65 = .ok (.lcmp, 1) := by decide +kernel
theorem dP_isKept_66 : decode bP_isKept 66 = .ok (.ifCond .gt 7, 3) := by decide +kernel
theorem dP_isKept_69 : decode bP_isKept 69 = .ok (.iconst 1, 1) := by decide +kernel
theorem dP_isKept_70 : decode bP_isKept 70 = .ok (.goto 18, 3) := by decide +kernel
theorem dP_isKept_73 : decode bP_isKept 73 = .ok (.iconst 0, 1) := by decide +kernel
theorem dP_isKept_74 : decode bP_isKept 74 = .ok (.goto 14, 3) := by decide +kernel
theorem dP_isKept_77 : decode bP_isKept 77 = .ok (.lload_n 2, 1) := by decide +kernel
theorem dP_isKept_78 : decode bP_isKept 78 = .ok (.lconst 0, 1) := by decide +kernel
theorem dP_isKept_79 : decode bP_isKept 79 = .ok (.lcmp, 1) := by decide +kernel
theorem dP_isKept_80 : decode bP_isKept 80 = .ok (.ifCond .ne 7, 3) := by decide +kernel
theorem dP_isKept_83 : decode bP_isKept 83 = .ok (.iconst 1, 1) := by decide +kernel
theorem dP_isKept_84 : decode bP_isKept 84 = .ok (.goto 4, 3) := by decide +kernel
theorem dP_isKept_87 : decode bP_isKept 87 = .ok (.iconst 0, 1) := by decide +kernel
theorem dP_isKept_88 : decode bP_isKept 88 = .ok (.ireturn, 1) := by decide +kernel
theorem dP_linesOf_0 : decode bP_linesOf 0 = .ok (.aload_n 0, 1) := by decide +kernel
theorem dP_linesOf_1 : decode bP_linesOf 1 = .ok (.getfield 9, 3) := by decide +kernel
theorem dP_linesOf_4 : decode bP_linesOf 4 = .ok (.iload_n 1, 1) := by decide +kernel
theorem dP_linesOf_5 : decode bP_linesOf 5 = .ok (.iaload, 1) := by decide +kernel
theorem dP_linesOf_6 : decode bP_linesOf 6 = .ok (.iconst 2, 1) := by decide +kernel
theorem dP_linesOf_7 : decode bP_linesOf 7 = .ok (.if_icmp .ne 7, 3) := by decide +kernel
theorem dP_linesOf_10 : decode bP_linesOf 10 = .ok (.iconst 2, 1) := by decide +kernel
theorem dP_linesOf_11 : decode bP_linesOf 11 = .ok (.goto 4, 3) := by decide +kernel
theorem dP_linesOf_14 : decode bP_linesOf 14 = .ok (.iconst 1, 1) := by decide +kernel
theorem dP_linesOf_15 : decode bP_linesOf 15 = .ok (.ireturn, 1) := by decide +kernel
theorem dP_linesInTable_0 : decode bP_linesInTable 0 = .ok (.iload_n 1, 1) := by decide +kernel
theorem dP_linesInTable_1 : decode bP_linesInTable 1 = .ok (.aload_n 0, 1) := by decide +kernel
theorem dP_linesInTable_2 : decode bP_linesInTable 2 = .ok (.getfield 37, 3) := by decide +kernel
theorem dP_linesInTable_5 : decode bP_linesInTable 5 = .ok (.if_icmp .ge 11, 3) := by decide +kernel
theorem dP_linesInTable_8 : decode bP_linesInTable 8 = .ok (.aload_n 0, 1) := by decide +kernel
theorem dP_linesInTable_9 : decode bP_linesInTable 9 = .ok (.iload_n 1, 1) := by decide +kernel
theorem dP_linesInTable_10 : decode bP_linesInTable 10 = .ok (.invokevirtual 199, 3) := by decide +kernel
theorem dP_linesInTable_13 : decode bP_linesInTable 13 = .ok (.goto 4, 3) := by decide +kernel
theorem dP_linesInTable_16 : decode bP_linesInTable 16 = .ok (.iconst 0, 1) := by decide +kernel
theorem dP_linesInTable_17 : decode bP_linesInTable 17 = .ok (.ireturn, 1) := by decide +kernel
theorem dP_signOf_0 : decode bP_signOf 0 = .ok (.aload_n 0, 1) := by decide +kernel
theorem dP_signOf_1 : decode bP_signOf 1 = .ok (.getfield 9, 3) := by decide +kernel
theorem dP_signOf_4 : decode bP_signOf 4 = .ok (.iload_n 1, 1) := by decide +kernel
theorem dP_signOf_5 : decode bP_signOf 5 = .ok (.iaload, 1) := by decide +kernel
theorem dP_signOf_6 : decode bP_signOf 6 = .ok (.iconst 1, 1) := by decide +kernel
theorem dP_signOf_7 : decode bP_signOf 7 = .ok (.if_icmp .eq 8, 3) := by decide +kernel
theorem dP_signOf_10 : decode bP_signOf 10 = .ok (.iload_n 2, 1) := by decide +kernel
theorem dP_signOf_11 : decode bP_signOf 11 = .ok (.iconst 1, 1) := by decide +kernel
theorem dP_signOf_12 : decode bP_signOf 12 = .ok (.if_icmp .ne 7, 3) := by decide +kernel
theorem dP_signOf_15 : decode bP_signOf 15 = .ok (.iconst (-1), 1) := by decide +kernel
theorem dP_signOf_16 : decode bP_signOf 16 = .ok (.goto 4, 3) := by decide +kernel
theorem dP_signOf_19 : decode bP_signOf 19 = .ok (.iconst 1, 1) := by decide +kernel
theorem dP_signOf_20 : decode bP_signOf 20 = .ok (.ireturn, 1) := by decide +kernel
theorem dP_variableOf_0 : decode bP_variableOf 0 = .ok (.aload_n 0, 1) := by decide +kernel
theorem dP_variableOf_1 : decode bP_variableOf 1 = .ok (.getfield 29, 3) := by decide +kernel
theorem dP_variableOf_4 : decode bP_variableOf 4 = .ok (.getfield 62, 3) := by decide +kernel
theorem dP_variableOf_7 : decode bP_variableOf 7 = .ok (.aload_n 0, 1) := by decide +kernel
theorem dP_variableOf_8 : decode bP_variableOf 8 = .ok (.getfield 23, 3) := by decide +kernel
theorem dP_variableOf_11 : decode bP_variableOf 11 = .ok (.iload_n 1, 1) := by decide +kernel
theorem dP_variableOf_12 : decode bP_variableOf 12 = .ok (.iaload, 1) := by decide +kernel
theorem dP_variableOf_13 : decode bP_variableOf 13 = .ok (.iadd, 1) := by decide +kernel
theorem dP_variableOf_14 : decode bP_variableOf 14 = .ok (.iload_n 2, 1) := by decide +kernel
theorem dP_variableOf_15 : decode bP_variableOf 15 = .ok (.iadd, 1) := by decide +kernel
theorem dP_variableOf_16 : decode bP_variableOf 16 = .ok (.ireturn, 1) := by decide +kernel
theorem dP_bringRows_0 : decode bP_bringRows 0 = .ok (.aload_n 0, 1) := by decide +kernel
theorem dP_bringRows_1 : decode bP_bringRows 1 = .ok (.getfield 37, 3) := by decide +kernel
theorem dP_bringRows_4 : decode bP_bringRows 4 = .ok (.istore_n 1, 1) := by decide +kernel
theorem dP_bringRows_5 : decode bP_bringRows 5 = .ok (.iload_n 1, 1) := by decide +kernel
theorem dP_bringRows_6 : decode bP_bringRows 6 = .ok (.aload_n 0, 1) := by decide +kernel
theorem dP_bringRows_7 : decode bP_bringRows 7 = .ok (.getfield 33, 3) := by decide +kernel
theorem dP_bringRows_10 : decode bP_bringRows 10 = .ok (.if_icmp .ge 26, 3) := by decide +kernel
theorem dP_bringRows_13 : decode bP_bringRows 13 = .ok (.aload_n 0, 1) := by decide +kernel
theorem dP_bringRows_14 : decode bP_bringRows 14 = .ok (.iload_n 1, 1) := by decide +kernel
theorem dP_bringRows_15 : decode bP_bringRows 15 = .ok (.invokevirtual 202, 3) := by decide +kernel
theorem dP_bringRows_18 : decode bP_bringRows 18 = .ok (.ifCond .ne 5, 3) := by decide +kernel
theorem dP_bringRows_21 : decode bP_bringRows 21 = .ok (.iconst 0, 1) := by decide +kernel
theorem dP_bringRows_22 : decode bP_bringRows 22 = .ok (.ireturn, 1) := by decide +kernel
theorem dP_bringRows_23 : decode bP_bringRows 23 = .ok (.aload_n 0, 1) := by decide +kernel
theorem dP_bringRows_24 : decode bP_bringRows 24 = .ok (.iload_n 1, 1) := by decide +kernel
theorem dP_bringRows_25 : decode bP_bringRows 25 = .ok (.iconst 1, 1) := by decide +kernel
theorem dP_bringRows_26 : decode bP_bringRows 26 = .ok (.iadd, 1) := by decide +kernel
theorem dP_bringRows_27 : decode bP_bringRows 27 = .ok (.putfield 37, 3) := by decide +kernel
theorem dP_bringRows_30 : decode bP_bringRows 30 = .ok (.iinc 1 1, 3) := by decide +kernel
theorem dP_bringRows_33 : decode bP_bringRows 33 = .ok (.goto (-28), 3) := by decide +kernel
theorem dP_bringRows_36 : decode bP_bringRows 36 = .ok (.iconst 1, 1) := by decide +kernel
theorem dP_bringRows_37 : decode bP_bringRows 37 = .ok (.ireturn, 1) := by decide +kernel
theorem dP_bringRow_0 : decode bP_bringRow 0 = .ok (.aload_n 0, 1) := by decide +kernel
theorem dP_bringRow_1 : decode bP_bringRow 1 = .ok (.getfield 29, 3) := by decide +kernel
theorem dP_bringRow_4 : decode bP_bringRow 4 = .ok (.aload_n 0, 1) := by decide +kernel
theorem dP_bringRow_5 : decode bP_bringRow 5 = .ok (.getfield 20, 3) := by decide +kernel
theorem dP_bringRow_8 : decode bP_bringRow 8 = .ok (.iload_n 1, 1) := by decide +kernel
theorem dP_bringRow_9 : decode bP_bringRow 9 = .ok (.iconst 0, 1) := by decide +kernel
theorem dP_bringRow_10 : decode bP_bringRow 10 = .ok (.invokestatic 109, 3) := by decide +kernel
theorem dP_bringRow_13 : decode bP_bringRow 13 = .ok (.aload_n 0, 1) := by decide +kernel
theorem dP_bringRow_14 : decode bP_bringRow 14 = .ok (.getfield 16, 3) := by decide +kernel
theorem dP_bringRow_17 : decode bP_bringRow 17 = .ok (.iload_n 1, 1) := by decide +kernel
theorem dP_bringRow_18 : decode bP_bringRow 18 = .ok (.laload, 1) := by decide +kernel
theorem dP_bringRow_19 : decode bP_bringRow 19 = .ok (.invokevirtual 205, 3) := by decide +kernel
theorem dP_bringRow_22 : decode bP_bringRow 22 = .ok (.aload_n 0, 1) := by decide +kernel
theorem dP_bringRow_23 : decode bP_bringRow 23 = .ok (.getfield 29, 3) := by decide +kernel
theorem dP_bringRow_26 : decode bP_bringRow 26 = .ok (.invokevirtual 209, 3) := by decide +kernel
theorem dP_bringRow_29 : decode bP_bringRow 29 = .ok (.ifCond .ne 5, 3) := by decide +kernel
theorem dP_bringRow_32 : decode bP_bringRow 32 = .ok (.iconst 0, 1) := by decide +kernel
theorem dP_bringRow_33 : decode bP_bringRow 33 = .ok (.ireturn, 1) := by decide +kernel
theorem dP_bringRow_34 : decode bP_bringRow 34 = .ok (.aload_n 0, 1) := by decide +kernel
theorem dP_bringRow_35 : decode bP_bringRow 35 = .ok (.getfield 23, 3) := by decide +kernel
theorem dP_bringRow_38 : decode bP_bringRow 38 = .ok (.iload_n 1, 1) := by decide +kernel
theorem dP_bringRow_39 : decode bP_bringRow 39 = .ok (.aload_n 0, 1) := by decide +kernel
theorem dP_bringRow_40 : decode bP_bringRow 40 = .ok (.getfield 29, 3) := by decide +kernel
theorem dP_bringRow_43 : decode bP_bringRow 43 = .ok (.getfield 172, 3) := by decide +kernel
theorem dP_bringRow_46 : decode bP_bringRow 46 = .ok (.iastore, 1) := by decide +kernel
theorem dP_bringRow_47 : decode bP_bringRow 47 = .ok (.iconst 0, 1) := by decide +kernel
theorem dP_bringRow_48 : decode bP_bringRow 48 = .ok (.istore_n 2, 1) := by decide +kernel
theorem dP_bringRow_49 : decode bP_bringRow 49 = .ok (.iload_n 2, 1) := by decide +kernel
theorem dP_bringRow_50 : decode bP_bringRow 50 = .ok (.aload_n 0, 1) := by decide +kernel
theorem dP_bringRow_51 : decode bP_bringRow 51 = .ok (.iload_n 1, 1) := by decide +kernel
theorem dP_bringRow_52 : decode bP_bringRow 52 = .ok (.invokevirtual 199, 3) := by decide +kernel
theorem dP_bringRow_55 : decode bP_bringRow 55 = .ok (.if_icmp .ge 22, 3) := by decide +kernel
theorem dP_bringRow_58 : decode bP_bringRow 58 = .ok (.aload_n 0, 1) := by decide +kernel
theorem dP_bringRow_59 : decode bP_bringRow 59 = .ok (.getfield 29, 3) := by decide +kernel
theorem dP_bringRow_62 : decode bP_bringRow 62 = .ok (.aload_n 0, 1) := by decide +kernel
theorem dP_bringRow_63 : decode bP_bringRow 63 = .ok (.iload_n 1, 1) := by decide +kernel
theorem dP_bringRow_64 : decode bP_bringRow 64 = .ok (.iload_n 2, 1) := by decide +kernel
theorem dP_bringRow_65 : decode bP_bringRow 65 = .ok (.invokevirtual 150, 3) := by decide +kernel
theorem dP_bringRow_68 : decode bP_bringRow 68 = .ok (.invokevirtual 212, 3) := by decide +kernel
theorem dP_bringRow_71 : decode bP_bringRow 71 = .ok (.iinc 2 1, 3) := by decide +kernel
theorem dP_bringRow_74 : decode bP_bringRow 74 = .ok (.goto (-25), 3) := by decide +kernel
theorem dP_bringRow_77 : decode bP_bringRow 77 = .ok (.iconst 1, 1) := by decide +kernel
theorem dP_bringRow_78 : decode bP_bringRow 78 = .ok (.ireturn, 1) := by decide +kernel
theorem dP_doSteps_0 : decode bP_doSteps 0 = .ok (.iconst 0, 1) := by decide +kernel
theorem dP_doSteps_1 : decode bP_doSteps 1 = .ok (.istore_n 2, 1) := by decide +kernel
theorem dP_doSteps_2 : decode bP_doSteps 2 = .ok (.iload_n 2, 1) := by decide +kernel
theorem dP_doSteps_3 : decode bP_doSteps 3 = .ok (.iload_n 1, 1) := by decide +kernel
theorem dP_doSteps_4 : decode bP_doSteps 4 = .ok (.if_icmp .gt 84, 3) := by decide +kernel
theorem dP_doSteps_7 : decode bP_doSteps 7 = .ok (.aload_n 0, 1) := by decide +kernel
theorem dP_doSteps_8 : decode bP_doSteps 8 = .ok (.getfield 29, 3) := by decide +kernel
theorem dP_doSteps_11 : decode bP_doSteps 11 = .ok (.invokevirtual 161, 3) := by decide +kernel
theorem dP_doSteps_14 : decode bP_doSteps 14 = .ok (.istore_n 3, 1) := by decide +kernel
theorem dP_doSteps_15 : decode bP_doSteps 15 = .ok (.iload_n 3, 1) := by decide +kernel
theorem dP_doSteps_16 : decode bP_doSteps 16 = .ok (.iconst (-1), 1) := by decide +kernel
theorem dP_doSteps_17 : decode bP_doSteps 17 = .ok (.if_icmp .ne 5, 3) := by decide +kernel
theorem dP_doSteps_20 : decode bP_doSteps 20 = .ok (.iconst 0, 1) := by decide +kernel
theorem dP_doSteps_21 : decode bP_doSteps 21 = .ok (.ireturn, 1) := by decide +kernel
theorem dP_doSteps_22 : decode bP_doSteps 22 = .ok (.aload_n 0, 1) := by decide +kernel
theorem dP_doSteps_23 : decode bP_doSteps 23 = .ok (.getfield 29, 3) := by decide +kernel
theorem dP_doSteps_26 : decode bP_doSteps 26 = .ok (.iload_n 3, 1) := by decide +kernel
theorem dP_doSteps_27 : decode bP_doSteps 27 = .ok (.invokevirtual 215, 3) := by decide +kernel
theorem dP_doSteps_30 : decode bP_doSteps 30 = .ok (.istore 4, 2) := by decide +kernel
theorem dP_doSteps_32 : decode bP_doSteps 32 = .ok (.iload 4, 2) := by decide +kernel
theorem dP_doSteps_34 : decode bP_doSteps 34 = .ok (.iconst (-1), 1) := by decide +kernel
theorem dP_doSteps_35 : decode bP_doSteps 35 = .ok (.if_icmp .ne 5, 3) := by decide +kernel
theorem dP_doSteps_38 : decode bP_doSteps 38 = .ok (.iconst 1, 1) := by decide +kernel
theorem dP_doSteps_39 : decode bP_doSteps 39 = .ok (.ireturn, 1) := by decide +kernel
theorem dP_doSteps_40 : decode bP_doSteps 40 = .ok (.iload_n 2, 1) := by decide +kernel
theorem dP_doSteps_41 : decode bP_doSteps 41 = .ok (.iload_n 1, 1) := by decide +kernel
theorem dP_doSteps_42 : decode bP_doSteps 42 = .ok (.if_icmp .ne 5, 3) := by decide +kernel
theorem dP_doSteps_45 : decode bP_doSteps 45 = .ok (.iconst 2, 1) := by decide +kernel
theorem dP_doSteps_46 : decode bP_doSteps 46 = .ok (.ireturn, 1) := by decide +kernel
theorem dP_doSteps_47 : decode bP_doSteps 47 = .ok (.aload_n 0, 1) := by decide +kernel
theorem dP_doSteps_48 : decode bP_doSteps 48 = .ok (.getfield 29, 3) := by decide +kernel
theorem dP_doSteps_51 : decode bP_doSteps 51 = .ok (.iload_n 3, 1) := by decide +kernel
theorem dP_doSteps_52 : decode bP_doSteps 52 = .ok (.iload 4, 2) := by decide +kernel
theorem dP_doSteps_54 : decode bP_doSteps 54 = .ok (.invokevirtual 218, 3) := by decide +kernel
theorem dP_doSteps_57 : decode bP_doSteps 57 = .ok (.ifCond .ne 5, 3) := by decide +kernel
theorem dP_doSteps_60 : decode bP_doSteps 60 = .ok (.iconst 3, 1) := by decide +kernel
theorem dP_doSteps_61 : decode bP_doSteps 61 = .ok (.ireturn, 1) := by decide +kernel
theorem dP_doSteps_62 : decode bP_doSteps 62 = .ok (.aload_n 0, 1) := by decide +kernel
theorem dP_doSteps_63 : decode bP_doSteps 63 = .ok (.getfield 29, 3) := by decide +kernel
theorem dP_doSteps_66 : decode bP_doSteps 66 = .ok (.iload_n 3, 1) := by decide +kernel
theorem dP_doSteps_67 : decode bP_doSteps 67 = .ok (.iload 4, 2) := by decide +kernel
theorem dP_doSteps_69 : decode bP_doSteps 69 = .ok (.invokevirtual 222, 3) := by decide +kernel
theorem dP_doSteps_72 : decode bP_doSteps 72 = .ok (.aload_n 0, 1) := by decide +kernel
theorem dP_doSteps_73 : decode bP_doSteps 73 = .ok (.dup, 1) := by decide +kernel
theorem dP_doSteps_74 : decode bP_doSteps 74 = .ok (.getfield 40, 3) := by decide +kernel
theorem dP_doSteps_77 : decode bP_doSteps 77 = .ok (.iconst 1, 1) := by decide +kernel
theorem dP_doSteps_78 : decode bP_doSteps 78 = .ok (.iadd, 1) := by decide +kernel
theorem dP_doSteps_79 : decode bP_doSteps 79 = .ok (.putfield 40, 3) := by decide +kernel
theorem dP_doSteps_82 : decode bP_doSteps 82 = .ok (.iinc 2 1, 3) := by decide +kernel
theorem dP_doSteps_85 : decode bP_doSteps 85 = .ok (.goto (-83), 3) := by decide +kernel
theorem dP_doSteps_88 : decode bP_doSteps 88 = .ok (.iconst 2, 1) := by decide +kernel
theorem dP_doSteps_89 : decode bP_doSteps 89 = .ok (.ireturn, 1) := by decide +kernel
theorem dP_moveStarts_0 : decode bP_moveStarts 0 = .ok (.aload_n 0, 1) := by decide +kernel
theorem dP_moveStarts_1 : decode bP_moveStarts 1 = .ok (.getfield 29, 3) := by decide +kernel
theorem dP_moveStarts_4 : decode bP_moveStarts 4 = .ok (.invokevirtual 226, 3) := by decide +kernel
theorem dP_moveStarts_7 : decode bP_moveStarts 7 = .ok (.iconst 0, 1) := by decide +kernel
theorem dP_moveStarts_8 : decode bP_moveStarts 8 = .ok (.istore 4, 2) := by decide +kernel
theorem dP_moveStarts_10 : decode bP_moveStarts 10 = .ok (.iload 4, 2) := by decide +kernel
theorem dP_moveStarts_12 : decode bP_moveStarts 12 = .ok (.aload_n 0, 1) := by decide +kernel
theorem dP_moveStarts_13 : decode bP_moveStarts 13 = .ok (.iload_n 1, 1) := by decide +kernel
theorem dP_moveStarts_14 : decode bP_moveStarts 14 = .ok (.invokevirtual 199, 3) := by decide +kernel
theorem dP_moveStarts_17 : decode bP_moveStarts 17 = .ok (.if_icmp .ge 34, 3) := by decide +kernel
theorem dP_moveStarts_20 : decode bP_moveStarts 20 = .ok (.aload_n 0, 1) := by decide +kernel
theorem dP_moveStarts_21 : decode bP_moveStarts 21 = .ok (.getfield 29, 3) := by decide +kernel
theorem dP_moveStarts_24 : decode bP_moveStarts 24 = .ok (.aload_n 0, 1) := by decide +kernel
theorem dP_moveStarts_25 : decode bP_moveStarts 25 = .ok (.iload_n 1, 1) := by decide +kernel
theorem dP_moveStarts_26 : decode bP_moveStarts 26 = .ok (.iload 4, 2) := by decide +kernel
theorem dP_moveStarts_28 : decode bP_moveStarts 28 = .ok (.invokevirtual 153, 3) := by decide +kernel
theorem dP_moveStarts_31 : decode bP_moveStarts 31 = .ok (.aload_n 0, 1) := by decide +kernel
theorem dP_moveStarts_32 : decode bP_moveStarts 32 = .ok (.iload_n 1, 1) := by decide +kernel
theorem dP_moveStarts_33 : decode bP_moveStarts 33 = .ok (.iload 4, 2) := by decide +kernel
theorem dP_moveStarts_35 : decode bP_moveStarts 35 = .ok (.invokevirtual 150, 3) := by decide +kernel
theorem dP_moveStarts_38 : decode bP_moveStarts 38 = .ok (.ineg, 1) := by decide +kernel
theorem dP_moveStarts_39 : decode bP_moveStarts 39 = .ok (.i2l, 1) := by decide +kernel
theorem dP_moveStarts_40 : decode bP_moveStarts 40 = .ok (.lload_n 2, 1) := by decide +kernel
theorem dP_moveStarts_41 : decode bP_moveStarts 41 = .ok (.lmul, 1) := by decide +kernel
theorem dP_moveStarts_42 : decode bP_moveStarts 42 = .ok (.invokevirtual 229, 3) := by decide +kernel
theorem dP_moveStarts_45 : decode bP_moveStarts 45 = .ok (.iinc 4 1, 3) := by decide +kernel
theorem dP_moveStarts_48 : decode bP_moveStarts 48 = .ok (.goto (-38), 3) := by decide +kernel
theorem dP_moveStarts_51 : decode bP_moveStarts 51 = .ok (.aload_n 0, 1) := by decide +kernel
theorem dP_moveStarts_52 : decode bP_moveStarts 52 = .ok (.getfield 29, 3) := by decide +kernel
theorem dP_moveStarts_55 : decode bP_moveStarts 55 = .ok (.invokevirtual 233, 3) := by decide +kernel
theorem dP_moveStarts_58 : decode bP_moveStarts 58 = .ok (.ireturn, 1) := by decide +kernel
theorem dP_timesTaken_0 : decode bP_timesTaken 0 = .ok (.iload_n 1, 1) := by decide +kernel
theorem dP_timesTaken_1 : decode bP_timesTaken 1 = .ok (.iconst (-1), 1) := by decide +kernel
theorem dP_timesTaken_2 : decode bP_timesTaken 2 = .ok (.if_icmp .ne 5, 3) := by decide +kernel
theorem dP_timesTaken_5 : decode bP_timesTaken 5 = .ok (.lconst 0, 1) := by decide +kernel
theorem dP_timesTaken_6 : decode bP_timesTaken 6 = .ok (.lreturn, 1) := by decide +kernel
theorem dP_timesTaken_7 : decode bP_timesTaken 7 = .ok (.aload_n 0, 1) := by decide +kernel
theorem dP_timesTaken_8 : decode bP_timesTaken 8 = .ok (.getfield 29, 3) := by decide +kernel
theorem dP_timesTaken_11 : decode bP_timesTaken 11 = .ok (.getfield 236, 3) := by decide +kernel
theorem dP_timesTaken_14 : decode bP_timesTaken 14 = .ok (.iload_n 1, 1) := by decide +kernel
theorem dP_timesTaken_15 : decode bP_timesTaken 15 = .ok (.iaload, 1) := by decide +kernel
theorem dP_timesTaken_16 : decode bP_timesTaken 16 = .ok (.iload_n 2, 1) := by decide +kernel
theorem dP_timesTaken_17 : decode bP_timesTaken 17 = .ok (.if_icmp .ne 13, 3) := by decide +kernel
theorem dP_timesTaken_20 : decode bP_timesTaken 20 = .ok (.aload_n 0, 1) := by decide +kernel
theorem dP_timesTaken_21 : decode bP_timesTaken 21 = .ok (.getfield 29, 3) := by decide +kernel
theorem dP_timesTaken_24 : decode bP_timesTaken 24 = .ok (.getfield 135, 3) := by decide +kernel
theorem dP_timesTaken_27 : decode bP_timesTaken 27 = .ok (.goto 13, 3) := by decide +kernel
theorem dP_timesTaken_30 : decode bP_timesTaken 30 = .ok (.aload_n 0, 1) := by decide +kernel
theorem dP_timesTaken_31 : decode bP_timesTaken 31 = .ok (.getfield 29, 3) := by decide +kernel
theorem dP_timesTaken_34 : decode bP_timesTaken 34 = .ok (.iload_n 1, 1) := by decide +kernel
theorem dP_timesTaken_35 : decode bP_timesTaken 35 = .ok (.iload_n 2, 1) := by decide +kernel
theorem dP_timesTaken_36 : decode bP_timesTaken 36 = .ok (.invokevirtual 156, 3) := by decide +kernel
theorem dP_timesTaken_39 : decode bP_timesTaken 39 = .ok (.lneg, 1) := by decide +kernel
theorem dP_timesTaken_40 : decode bP_timesTaken 40 = .ok (.lreturn, 1) := by decide +kernel
theorem dP_inLeastTerms_0 : decode bP_inLeastTerms 0 = .ok (.iload 4, 2) := by decide +kernel
theorem dP_inLeastTerms_2 : decode bP_inLeastTerms 2 = .ok (.ifCond .ne 7, 3) := by decide +kernel
theorem dP_inLeastTerms_5 : decode bP_inLeastTerms 5 = .ok (.lload_n 0, 1) := by decide +kernel
theorem dP_inLeastTerms_6 : decode bP_inLeastTerms 6 = .ok (.goto 4, 3) := by decide +kernel
theorem dP_inLeastTerms_9 : decode bP_inLeastTerms 9 = .ok (.lload_n 2, 1) := by decide +kernel
theorem dP_inLeastTerms_10 : decode bP_inLeastTerms 10 = .ok (.lstore 5, 2) := by decide +kernel
theorem dP_inLeastTerms_12 : decode bP_inLeastTerms 12 = .ok (.lload_n 0, 1) := by decide +kernel
theorem dP_inLeastTerms_13 : decode bP_inLeastTerms 13 = .ok (.invokestatic 239, 3) := by decide +kernel
theorem dP_inLeastTerms_16 : decode bP_inLeastTerms 16 = .ok (.lload_n 2, 1) := by decide +kernel
theorem dP_inLeastTerms_17 : decode bP_inLeastTerms 17 = .ok (.invokestatic 243, 3) := by decide +kernel
theorem dP_inLeastTerms_20 : decode bP_inLeastTerms 20 = .ok (.lstore 7, 2) := by decide +kernel
theorem dP_inLeastTerms_22 : decode bP_inLeastTerms 22 = .ok (.lload 7, 2) := by decide +kernel
theorem dP_inLeastTerms_24 : decode bP_inLeastTerms 24 = .ok (.lconst 0, 1) := by decide +kernel
theorem dP_inLeastTerms_25 : decode bP_inLeastTerms 25 = .ok (.lcmp, 1) := by decide +kernel
theorem dP_inLeastTerms_26 : decode bP_inLeastTerms 26 = .ok (.ifCond .ne 8, 3) := by decide +kernel
theorem dP_inLeastTerms_29 : decode bP_inLeastTerms 29 = .ok (.lload 5, 2) := by decide +kernel
theorem dP_inLeastTerms_31 : decode bP_inLeastTerms 31 = .ok (.goto 8, 3) := by decide +kernel
theorem dP_inLeastTerms_34 : decode bP_inLeastTerms 34 = .ok (.lload 5, 2) := by decide +kernel
theorem dP_inLeastTerms_36 : decode bP_inLeastTerms 36 = .ok (.lload 7, 2) := by decide +kernel
theorem dP_inLeastTerms_38 : decode bP_inLeastTerms 38 = .ok (.ldiv, 1) := by decide +kernel
theorem dP_inLeastTerms_39 : decode bP_inLeastTerms 39 = .ok (.lreturn, 1) := by decide +kernel
theorem dP_greatestCommon_0 : decode bP_greatestCommon 0 = .ok (.iconst 0, 1) := by decide +kernel
theorem dP_greatestCommon_1 : decode bP_greatestCommon 1 = .ok (.istore 4, 2) := by decide +kernel
theorem dP_greatestCommon_3 : decode bP_greatestCommon 3 = .ok (.iload 4, 2) := by decide +kernel
theorem dP_greatestCommon_5 : decode bP_greatestCommon 5 = .ok (.bipush 100, 2) := by decide +kernel
theorem dP_greatestCommon_7 : decode bP_greatestCommon 7 = .ok (.if_icmp .ge 25, 3) := by decide +kernel
theorem dP_greatestCommon_10 : decode bP_greatestCommon 10 = .ok (.lload_n 2, 1) := by decide +kernel
theorem dP_greatestCommon_11 : decode bP_greatestCommon 11 = .ok (.lconst 0, 1) := by decide +kernel
theorem dP_greatestCommon_12 : decode bP_greatestCommon 12 = .ok (.lcmp, 1) := by decide +kernel
theorem dP_greatestCommon_13 : decode bP_greatestCommon 13 = .ok (.ifCond .eq 19, 3) := by decide +kernel
theorem dP_greatestCommon_16 : decode bP_greatestCommon 16 = .ok (.lload_n 0, 1) := by decide +kernel
theorem dP_greatestCommon_17 : decode bP_greatestCommon 17 = .ok (.lload_n 2, 1) := by decide +kernel
theorem dP_greatestCommon_18 : decode bP_greatestCommon 18 = .ok (.lrem, 1) := by decide +kernel
theorem dP_greatestCommon_19 : decode bP_greatestCommon 19 = .ok (.lstore 5, 2) := by decide +kernel
theorem dP_greatestCommon_21 : decode bP_greatestCommon 21 = .ok (.lload_n 2, 1) := by decide +kernel
theorem dP_greatestCommon_22 : decode bP_greatestCommon 22 = .ok (.lstore_n 0, 1) := by decide +kernel
theorem dP_greatestCommon_23 : decode bP_greatestCommon 23 = .ok (.lload 5, 2) := by decide +kernel
theorem dP_greatestCommon_25 : decode bP_greatestCommon 25 = .ok (.lstore_n 2, 1) := by decide +kernel
theorem dP_greatestCommon_26 : decode bP_greatestCommon 26 = .ok (.iinc 4 1, 3) := by decide +kernel
theorem dP_greatestCommon_29 : decode bP_greatestCommon 29 = .ok (.goto (-26), 3) := by decide +kernel
theorem dP_greatestCommon_32 : decode bP_greatestCommon 32 = .ok (.lload_n 0, 1) := by decide +kernel
theorem dP_greatestCommon_33 : decode bP_greatestCommon 33 = .ok (.lreturn, 1) := by decide +kernel
end
section
/-! what the loops compute, place by place -/
theorem updL_13 (C : Nat → Int64) (a b c d : Nat) (x : Int64) (hb : b < 13) (hd : d < 13) : vp_updL C (a * 13 + b) x (c * 13 + d) = if c = a ∧ d = b then x else C (c * 13 + d) := by
  unfold vp_updL
  by_cases h : c = a ∧ d = b
  · rw [if_pos h, if_pos (by omega)]
  · rw [if_neg h, if_neg (by omega)]
theorem tcL_at (C : Nat → Int64) (i : Nat) (f : Int64) : ∀ (n k : Nat) (G : Nat → Int64) (j : Nat), tcL C i f k n G j = if k ≤ j ∧ j < k + n then G j + f * C (i * 13 + j) else G j := by
  intro n
  induction n with
  | zero => intro k G j; rw [if_neg (by omega)]; rfl
  | succ n ih =>
    intro k G j
    rw [tcL, ih]
    by_cases h : j = k
    · subst h
      rw [if_neg (by omega), if_pos (by omega)]
      simp [vp_updL]
    · have e1 : vp_updL G k (G k + f * C (i * 13 + k)) j = G j := by simp [vp_updL, h]
      rw [e1]
      by_cases h2 : k ≤ j ∧ j < k + (n + 1)
      · rw [if_pos (by omega), if_pos h2]
      · rw [if_neg (by omega), if_neg h2]
theorem fillL_at (v : Int64) : ∀ (n k : Nat) (G : Nat → Int64) (j : Nat), fillL v k n G j = if k ≤ j ∧ j < k + n then v else G j := by
  intro n
  induction n with
  | zero => intro k G j; rw [if_neg (by omega)]; rfl
  | succ n ih =>
    intro k G j
    rw [fillL, ih]
    by_cases h : j = k
    · subst h
      rw [if_neg (by omega), if_pos (by omega)]
      simp [vp_updL]
    · have e1 : vp_updL G k v j = G j := by simp [vp_updL, h]
      rw [e1]
      by_cases h2 : k ≤ j ∧ j < k + (n + 1)
      · rw [if_pos (by omega), if_pos h2]
      · rw [if_neg (by omega), if_neg h2]
theorem csL_at (C : Nat → Int64) : ∀ (n k : Nat) (G : Nat → Int64) (j : Nat), csL C k n G j = if k ≤ j ∧ j < k + n then C (j * 13 + 0) else G j := by
  intro n
  induction n with
  | zero => intro k G j; rw [if_neg (by omega)]; rfl
  | succ n ih =>
    intro k G j
    rw [csL, ih]
    by_cases h : j = k
    · subst h
      rw [if_neg (by omega), if_pos (by omega)]
      simp [vp_updL]
    · have e1 : vp_updL G k (C (k * 13 + 0)) j = G j := by simp [vp_updL, h]
      rw [e1]
      by_cases h2 : k ≤ j ∧ j < k + (n + 1)
      · rw [if_pos (by omega), if_pos h2]
      · rw [if_neg (by omega), if_neg h2]
theorem mcL_at (C : Nat → Int64) (q : Nat) (f : Int64) : ∀ (n k : Nat) (G : Nat → Int64) (j : Nat), mcL C q f k n G j = if k ≤ j ∧ j < k + n then G j - C (j * 13 + q) * f else G j := by
  intro n
  induction n with
  | zero => intro k G j; rw [if_neg (by omega)]; rfl
  | succ n ih =>
    intro k G j
    rw [mcL, ih]
    by_cases h : j = k
    · subst h
      rw [if_neg (by omega), if_pos (by omega)]
      simp [vp_updL]
    · have e1 : vp_updL G k (G k - C (k * 13 + q) * f) j = G j := by simp [vp_updL, h]
      rw [e1]
      by_cases h2 : k ≤ j ∧ j < k + (n + 1)
      · rw [if_pos (by omega), if_pos h2]
      · rw [if_neg (by omega), if_neg h2]
theorem btL_at (G : Nat → Int64) (h : Nat) (s : Int64) : ∀ (n k : Nat) (C : Nat → Int64) (a b : Nat), k + n ≤ 13 → b < 13 → btL G h s k n C (a * 13 + b) = if a = h ∧ k ≤ b ∧ b < k + n then s * G b else C (a * 13 + b) := by
  intro n
  induction n with
  | zero => intro k C a b h1 h2; rw [if_neg (by omega)]; rfl
  | succ n ih =>
    intro k C a b h1 h2
    rw [btL, ih _ _ _ _ (by omega) h2, updL_13 _ _ _ _ _ _ (by omega) h2]
    by_cases h3 : a = h ∧ b = k
    · obtain ⟨rfl, rfl⟩ := h3
      rw [if_neg (by omega), if_pos ⟨rfl, rfl⟩, if_pos (by omega)]
    · rw [if_neg h3]
      by_cases h4 : a = h ∧ k ≤ b ∧ b < k + (n + 1)
      · rw [if_pos (by omega), if_pos h4]
      · rw [if_neg (by omega), if_neg h4]
theorem tkL_at (S : Nat → Int64) : ∀ (n k : Nat) (C : Nat → Int64) (a b : Nat), b < 13 → tkL S k n C (a * 13 + b) = if b = 0 ∧ k ≤ a ∧ a < k + n then S a else C (a * 13 + b) := by
  intro n
  induction n with
  | zero => intro k C a b h2; rw [if_neg (by omega)]; rfl
  | succ n ih =>
    intro k C a b h2
    rw [tkL, ih _ _ _ _ h2, updL_13 _ _ _ _ _ _ (by omega) h2]
    by_cases h3 : a = k ∧ b = 0
    · obtain ⟨rfl, rfl⟩ := h3
      rw [if_neg (by omega), if_pos ⟨rfl, rfl⟩, if_pos (by omega)]
    · rw [if_neg h3]
      by_cases h4 : b = 0 ∧ k ≤ a ∧ a < k + (n + 1)
      · rw [if_pos (by omega), if_pos h4]
      · rw [if_neg (by omega), if_neg h4]
theorem coL_at (d : Int64) (i le en : Nat) (p c : Int64) (hi : i ≠ le) : ∀ (n k : Nat) (C : Nat → Int64) (a b : Nat), k + n ≤ 13 → b < 13 → coL d i le en p c k n C (a * 13 + b) = if a = i ∧ k ≤ b ∧ b < k + n ∧ b ≠ en then afM d (C (i * 13 + b)) p c (C (le * 13 + b)) else C (a * 13 + b) := by
  intro n
  induction n with
  | zero => intro k C a b h1 h2; rw [if_neg (by omega)]; rfl
  | succ n ih =>
    intro k C a b h1 h2
    rw [coL, ih _ _ _ _ (by omega) h2]
    by_cases hk : k = en
    · rw [if_pos hk]
      by_cases h4 : a = i ∧ k ≤ b ∧ b < k + (n + 1) ∧ b ≠ en
      · rw [if_pos (by omega), if_pos h4]
      · rw [if_neg (by omega), if_neg h4]
    · rw [if_neg hk, updL_13 _ _ _ _ _ _ (by omega) h2, updL_13 _ _ _ _ _ _ (by omega) h2, updL_13 _ _ _ _ _ _ (by omega) h2]
      by_cases h3 : a = i ∧ b = k
      · obtain ⟨rfl, rfl⟩ := h3
        rw [if_neg (by omega), if_pos ⟨rfl, rfl⟩, if_pos (by omega)]
      · rw [if_neg h3]
        by_cases h4 : a = i ∧ k ≤ b ∧ b < k + (n + 1) ∧ b ≠ en
        · rw [if_pos (by omega), if_pos h4, if_neg (by omega), if_neg (by omega)]
        · rw [if_neg (by omega), if_neg h4]
theorem coM_at (d : Int64) (w i le en : Nat) (hi : i ≠ le) (hw : w ≤ 12) (C : Nat → Int64) (a b : Nat) (hb : b < 13) : coM d w i le en C (a * 13 + b) = if a = i ∧ b ≤ w ∧ b ≠ en then afM d (C (i * 13 + b)) (C (le * 13 + en)) (C (i * 13 + en)) (C (le * 13 + b)) else C (a * 13 + b) := by
  rw [coM, coL_at _ _ _ _ _ _ hi _ _ _ _ _ (by omega) hb]
  by_cases h4 : a = i ∧ b ≤ w ∧ b ≠ en
  · rw [if_pos (by omega), if_pos h4]
  · rw [if_neg (by omega), if_neg h4]
theorem chL_at (d : Int64) (w le en : Nat) (hw : w ≤ 12) (hen : en < 13) : ∀ (n k : Nat) (C : Nat → Int64) (a b : Nat), b < 13 → chL d w le en k n C (a * 13 + b) = if k ≤ a ∧ a < k + n ∧ a ≠ le ∧ b ≤ w ∧ b ≠ en then afM d (C (a * 13 + b)) (C (le * 13 + en)) (C (a * 13 + en)) (C (le * 13 + b)) else C (a * 13 + b) := by
  intro n
  induction n with
  | zero => intro k C a b h2; rw [if_neg (by omega)]; rfl
  | succ n ih =>
    intro k C a b h2
    rw [chL, ih _ _ _ _ h2]
    by_cases hk : k = le
    · rw [if_pos hk]
      by_cases h4 : k ≤ a ∧ a < k + (n + 1) ∧ a ≠ le ∧ b ≤ w ∧ b ≠ en
      · rw [if_pos (by omega), if_pos h4]
      · rw [if_neg (by omega), if_neg h4]
    · rw [if_neg hk, coM_at _ _ _ _ _ hk hw _ _ _ h2, coM_at _ _ _ _ _ hk hw _ _ _ hen, coM_at _ _ _ _ _ hk hw _ _ _ hen, coM_at _ _ _ _ _ hk hw _ _ _ h2]
      by_cases h3 : a = k
      · subst h3
        rw [if_neg (by omega)]
        by_cases h5 : b ≤ w ∧ b ≠ en
        · rw [if_pos (by omega), if_pos (by omega)]
        · rw [if_neg (by omega), if_neg (by omega)]
      · have e1 : ¬ (a = k ∧ b ≤ w ∧ b ≠ en) := by omega
        have e2 : ¬ (le = k ∧ en ≤ w ∧ en ≠ en) := by omega
        have e3 : ¬ (a = k ∧ en ≤ w ∧ en ≠ en) := by omega
        have e4 : ¬ (le = k ∧ b ≤ w ∧ b ≠ en) := by omega
        rw [if_neg e1, if_neg e2, if_neg e3, if_neg e4]
        by_cases h4 : k ≤ a ∧ a < k + (n + 1) ∧ a ≠ le ∧ b ≤ w ∧ b ≠ en
        · rw [if_pos (by omega), if_pos h4]
        · rw [if_neg (by omega), if_neg h4]
theorem ceL_at (d : Int64) (le en : Nat) : ∀ (n k : Nat) (C : Nat → Int64) (a b : Nat), k + n ≤ 13 → b < 13 → ceL d le en k n C (a * 13 + b) = if a = le ∧ k ≤ b ∧ b < k + n then (if b = en then d else -(C (le * 13 + b))) else C (a * 13 + b) := by
  intro n
  induction n with
  | zero => intro k C a b h1 h2; rw [if_neg (by omega)]; rfl
  | succ n ih =>
    intro k C a b h1 h2
    rw [ceL, ih _ _ _ _ (by omega) h2, updL_13 _ _ _ _ _ _ (by omega) h2, updL_13 _ _ _ _ _ _ (by omega) h2]
    by_cases h3 : a = le ∧ b = k
    · obtain ⟨rfl, rfl⟩ := h3
      rw [if_neg (by omega), if_pos ⟨rfl, rfl⟩, if_pos (show a = a ∧ b ≤ b ∧ b < b + (n + 1) by omega)]
    · rw [if_neg h3]
      by_cases h4 : a = le ∧ k ≤ b ∧ b < k + (n + 1)
      · rw [if_pos (by omega), if_pos h4, if_neg (show ¬ (le = le ∧ b = k) by omega)]
      · rw [if_neg (by omega), if_neg h4]
theorem allF_iff (f : Nat → Int64) : ∀ (n k : Nat), allF f k n = true ↔ ∀ j, k ≤ j → j < k + n → fits9 (f j) = true := by
  intro n
  induction n with
  | zero => intro k; simp [allF]; intro j h1 h2; omega
  | succ n ih =>
    intro k
    rw [allF, Bool.and_eq_true, ih]
    constructor
    · intro h j h1 h2
      by_cases h3 : j = k
      · subst h3; exact h.1
      · exact h.2 j (by omega) (by omega)
    · intro h
      exact ⟨h k (by omega) (by omega), fun j h1 h2 => h j (by omega) (by omega)⟩
theorem fnd_some {f : Nat → Int32} {v : Int32} : ∀ {n i j : Nat}, fnd f v i n = some j → f j = v := by
  intro n
  induction n with
  | zero => intro i j h; simp [fnd] at h
  | succ n ih =>
    intro i j h
    simp only [fnd] at h
    split at h
    · cases h; assumption
    · exact ih h
theorem fnd_none {f : Nat → Int32} {v : Int32} : ∀ {n i : Nat}, fnd f v i n = none → ∀ j, i ≤ j → j < i + n → f j ≠ v := by
  intro n
  induction n with
  | zero => intro i h j h1 h2; omega
  | succ n ih =>
    intro i h j h1 h2
    simp only [fnd] at h
    split at h
    · cases h
    · rename_i h3
      by_cases h4 : j = i
      · subst h4; exact h3
      · exact ih h j (by omega) (by omega)
end
section
set_option maxHeartbeats 4000000 in
set_option maxRecDepth 100000 in
theorem c_T_cell (l : Launch) (dC : Nat → ClassId) (dI : Nat → Nat → Nat) (ad : Nat → Nat) (k : Nat → ClassId) (T : TS) (i j : Nat) (hi : i * 13 + j < 325) : Met l yT_cell wT_cell ({ frames := 0, cells := 0, slots := 0, locals := 0 }) (rPc [.ref (ad 0), .int (nI i), .int (nI j)] (dC, dI) vwCl (TW ad k T) (TK k) xT) (rQ (some (.long (T.C (i * 13 + j))))) 0 0 (fun _ => False) := by
  refine Met.ofW (cc := bT_cell) (maxL := 3) (ret := (some .long)) (by decide) rfl ?_
  intro p e s m args below meth c s₁ B hml hv
  obtain ⟨rfl, hP, hK, hX⟩ := hv
  have hx := B.exec
  have hb := B.bytes
  have hr := B.returns
  have hts := atoms_spec (ws := wT_cell) B.pre
  have hta : ∀ w ∈ AW, w.before _ s = true := fun w h => hts w (List.mem_cons_of_mem _ h)
  have hown : s.vm.findClass RT = some m.cls := findClass_of_methodNamed B.named
  have hlocks := B.notSynchronized
  have hl := lv_entry ([.ref (ad 0), .int (nI i), .int (nI j)]) (n := 3) (Nat.le_of_ble_eq_true rfl)
  rw [lg_entry_eq]
  generalize (lg_sl ([.ref (ad 0), .int (nI i), .int (nI j)]) ++ List.replicate (3 - (lg_sl ([.ref (ad 0), .int (nI i), .int (nI j)])).length) Slot.unset).toArray = ls at hl ⊢
  have hl : lv_has ls 3 [(0, .ref (ad 0)), (1, .int (nI i)), (2, .int (nI j))] := hl
  refine lv_aload_n hx hb dT_cell_0 rfl (lv_at hl 0 rfl) ?_
  refine va_get (D := (dC, dI)) (ci := 0) (v := .ref (ad 1)) (C := RT) (T := FT) (N := 8) hx hb hta iT hown hK hP 0 rfl rfl 0 (by decide) (hta _ m_26) (fun _ h9 => h9) rfl dT_cell_1 ?_
  refine lv_iload_n hx hb dT_cell_4 rfl (lv_at hl 1 rfl) ?_
  refine lv_bipush (v := nI 13) hx hb dT_cell_5 (by decide) ?_
  refine lv_imul hx hb dT_cell_7 ?_
  refine st_i (y := nI (i * 13)) (pk_mul _ _) ?_
  refine lv_iload_n hx hb dT_cell_8 rfl (lv_at hl 2 rfl) ?_
  refine lv_iadd hx hb dT_cell_9 ?_
  refine st_i (y := nI ((i * 13) + j)) (nI_add _ _) ?_
  refine na_lald hx hb hK hP 1 0 rfl rfl (i := ((i * 13) + j)) (by omega) (by decide) dT_cell_10 ?_
  exact W.lret (v := T.C ((i * 13) + j)) hx hb hr (fun t ht hW => ⟨rfl, ht⟩) (fun q h => nomatch h) dT_cell_11

set_option maxHeartbeats 4000000 in
set_option maxRecDepth 100000 in
theorem c_T_fits (l : Launch) (dC : Nat → ClassId) (dI : Nat → Nat → Nat) (ad : Nat → Nat) (k : Nat → ClassId) (v : Int64)  : Met l yT_fits wT_fits ({ frames := 0, cells := 0, slots := 0, locals := 0 }) (rPc [.long v] (dC, dI) vwCl ([]) ([]) xT) (rQ (some (.int (bI (fits9 v))))) 0 0 (fun _ => False) := by
  refine Met.ofW (cc := bT_fits) (maxL := 2) (ret := (some .boolean)) (by decide) rfl ?_
  intro p e s m args below meth c s₁ B hml hv
  obtain ⟨rfl, hP, hK, hX⟩ := hv
  have hx := B.exec
  have hb := B.bytes
  have hr := B.returns
  have hts := atoms_spec (ws := wT_fits) B.pre
  have hta : ∀ w ∈ AW, w.before _ s = true := fun w h => hts w (List.mem_cons_of_mem _ h)
  have hown : s.vm.findClass RT = some m.cls := findClass_of_methodNamed B.named
  have hlocks := B.notSynchronized
  have hl := lv_entry ([.long v]) (n := 2) (Nat.le_of_ble_eq_true rfl)
  rw [lg_entry_eq]
  generalize (lg_sl ([.long v]) ++ List.replicate (2 - (lg_sl ([.long v])).length) Slot.unset).toArray = ls at hl ⊢
  have hl : lv_has ls 2 [(0, .long v)] := hl
  refine lv_lload_n hx hb dT_fits_0 rfl (lv_at hl 0 rfl) ?_
  refine lv_ldc2 (v := (-1000000000)) hx hb hown (hta _ m_353) dT_fits_1 ?_
  refine ll_lt (tgt := 20) hx hb dT_fits_4 dT_fits_5 (by decide) (fun h1 => ?_) (fun h1 => ?_)
  · refine lv_iconst (v := 0) hx hb dT_fits_20 (by decide) ?_
    exact W.zret (v := 0) hx hb hr (rfl) (fun t ht hW => ⟨congrArg (fun z => Outcome.returned (some (.int z))) (by simp_all [fits9, bI]), ht⟩) (fun q h => nomatch h) dT_fits_21
  · refine lv_lload_n hx hb dT_fits_8 rfl (lv_at hl 0 rfl) ?_
    refine lv_ldc2 (v := 1000000000) hx hb hown (hta _ m_354) dT_fits_9 ?_
    refine ll_gt (tgt := 20) hx hb dT_fits_12 dT_fits_13 (by decide) (fun h2 => ?_) (fun h2 => ?_)
    · refine lv_iconst (v := 0) hx hb dT_fits_20 (by decide) ?_
      exact W.zret (v := 0) hx hb hr (rfl) (fun t ht hW => ⟨congrArg (fun z => Outcome.returned (some (.int z))) (by simp_all [fits9, bI]), ht⟩) (fun q h => nomatch h) dT_fits_21
    · refine lv_iconst (v := 1) hx hb dT_fits_16 (by decide) ?_
      refine lv_goto (tgt := 21) hx hb dT_fits_17 (by decide) ?_
      exact W.zret (v := 1) hx hb hr (rfl) (fun t ht hW => ⟨congrArg (fun z => Outcome.returned (some (.int z))) (by simp_all [fits9, bI]), ht⟩) (fun q h => nomatch h) dT_fits_21

set_option maxHeartbeats 4000000 in
set_option maxRecDepth 100000 in
theorem c_T_placeInside (l : Launch) (dC : Nat → ClassId) (dI : Nat → Nat → Nat) (ad : Nat → Nat) (k : Nat → ClassId) (T : TS) (v : Int32) (hh : T.h ≤ 24) : Met l yT_placeInside wT_placeInside ({ frames := 0, cells := 0, slots := 0, locals := 0 }) (rPc [.ref (ad 0), .int v] (dC, dI) vwCl (TW ad k T) (TK k) xT) (rQ (some (.int (enc (fnd T.I v 1 T.h))))) 0 0 (fun _ => False) := by
  refine Met.ofW (cc := bT_placeInside) (maxL := 3) (ret := (some .int)) (by decide) rfl ?_
  intro p e s m args below meth c s₁ B hml hv
  obtain ⟨rfl, hP, hK, hX⟩ := hv
  have hx := B.exec
  have hb := B.bytes
  have hr := B.returns
  have hts := atoms_spec (ws := wT_placeInside) B.pre
  have hta : ∀ w ∈ AW, w.before _ s = true := fun w h => hts w (List.mem_cons_of_mem _ h)
  have hown : s.vm.findClass RT = some m.cls := findClass_of_methodNamed B.named
  have hlocks := B.notSynchronized
  have hl := lv_entry ([.ref (ad 0), .int v]) (n := 3) (Nat.le_of_ble_eq_true rfl)
  rw [lg_entry_eq]
  generalize (lg_sl ([.ref (ad 0), .int v]) ++ List.replicate (3 - (lg_sl ([.ref (ad 0), .int v])).length) Slot.unset).toArray = ls at hl ⊢
  have hl : lv_has ls 3 [(0, .ref (ad 0)), (1, .int v)] := hl
  refine lv_iconst (v := nI 1) hx hb dT_placeInside_0 (by decide) ?_
  refine lv_istore_n (lv' := [(2, .int (nI 1)), (0, .ref (ad 0)), (1, .int v)]) hx hb dT_placeInside_1 rfl hl (by decide) rfl (fun ls hl => ?_)
  have loop2 : ∀ (n : Nat) (i : Nat) (ls : Array Slot), (i + n = T.h + 1) → (1 ≤ i) → (fnd T.I v i n = fnd T.I v 1 T.h) → lv_has ls 3 [(2, .int (nI i)), (0, .ref (ad 0)), (1, .int v)] → W p l e (headSpec wT_placeInside ({ frames := 0, cells := 0, slots := 0, locals := 0 })).room s m ([.ref (ad 0), .int v] : List Value).toArray below meth c s.heap [] 0 0 (MQ below (rQ (some (.int (enc (fnd T.I v 1 T.h))))) ([.ref (ad 0), .int v] : List Value).toArray s 0 0 (fun _ => False)) (F0 m 2 ls []) := by
    intro n
    induction n with
    | zero =>
      intro i ls hn hi hq hl
      refine lv_iload_n hx hb dT_placeInside_2 rfl (lv_at hl 0 rfl) ?_
      refine lv_aload_n hx hb dT_placeInside_3 rfl (lv_at hl 1 rfl) ?_
      refine va_get (D := (dC, dI)) (ci := 0) (v := .int (nI T.h)) (C := RT) (T := FT) (N := 8) hx hb hta iT hown hK hP 0 rfl rfl 6 (by decide) (hta _ m_34) (fun _ h9 => h9) rfl dT_placeInside_4 ?_
      refine ni_gt (tgt := 28) hx hb dT_placeInside_7 (by decide) (by omega) (by omega) (fun c_1 => ?_) (fun c_1 => ?_)
      · refine lv_iconst (v := (-1)) hx hb dT_placeInside_28 (by decide) ?_
        exact W.iret (v := (-1)) hx hb hr (fun t ht hW => ⟨congrArg (fun z => Outcome.returned (some (.int z))) (by rw [← hq]; rfl), ht⟩) (fun q h => nomatch h) dT_placeInside_29
      · exfalso; omega
    | succ n ih =>
      intro i ls hn hi hq hl
      refine lv_iload_n hx hb dT_placeInside_2 rfl (lv_at hl 0 rfl) ?_
      refine lv_aload_n hx hb dT_placeInside_3 rfl (lv_at hl 1 rfl) ?_
      refine va_get (D := (dC, dI)) (ci := 0) (v := .int (nI T.h)) (C := RT) (T := FT) (N := 8) hx hb hta iT hown hK hP 0 rfl rfl 6 (by decide) (hta _ m_34) (fun _ h9 => h9) rfl dT_placeInside_4 ?_
      refine ni_gt (tgt := 28) hx hb dT_placeInside_7 (by decide) (by omega) (by omega) (fun c_2 => ?_) (fun c_2 => ?_)
      · exfalso; omega
      · refine lv_aload_n hx hb dT_placeInside_10 rfl (lv_at hl 1 rfl) ?_
        refine va_get (D := (dC, dI)) (ci := 0) (v := .ref (ad 2)) (C := RT) (T := FT) (N := 8) hx hb hta iT hown hK hP 0 rfl rfl 1 (by decide) (hta _ m_27) (fun _ h9 => h9) rfl dT_placeInside_11 ?_
        refine lv_iload_n hx hb dT_placeInside_14 rfl (lv_at hl 0 rfl) ?_
        refine na_iald hx hb hK hP 2 1 rfl rfl (i := i) (by omega) (by decide) dT_placeInside_15 ?_
        refine lv_iload_n hx hb dT_placeInside_16 rfl (lv_at hl 2 rfl) ?_
        refine lv_icmp_ne (tgt := 22) hx hb dT_placeInside_17 (by decide) (fun hc => ?_) (fun hc => ?_)
        · refine lv_iinc (v := nI (i + 1)) (lv' := [(2, .int (nI (i + 1))), (0, .ref (ad 0)), (1, .int v)]) hx hb dT_placeInside_22 hl (k := 0) rfl (nI_add i 1) (by decide) rfl (fun ls hl => ?_)
          refine lv_goto (tgt := 2) hx hb dT_placeInside_25 (by decide) ?_
          exact ih (i + 1) ls (by omega) (by omega) (by rw [← hq]; simp [fnd, hc]) (lv_sub hl [0, 1, 2] rfl)
        · refine lv_iload_n hx hb dT_placeInside_20 rfl (lv_at hl 0 rfl) ?_
          exact W.iret (v := nI i) hx hb hr (fun t ht hW => ⟨congrArg (fun z => Outcome.returned (some (.int z))) (by rw [← hq]; simp [fnd, hc, enc]), ht⟩) (fun q h => nomatch h) dT_placeInside_21
  exact loop2 T.h 1 ls (by omega) (by omega) rfl (lv_sub hl [0, 1, 2] rfl)

set_option maxHeartbeats 4000000 in
set_option maxRecDepth 100000 in
theorem c_T_placeOutside (l : Launch) (dC : Nat → ClassId) (dI : Nat → Nat → Nat) (ad : Nat → Nat) (k : Nat → ClassId) (T : TS) (v : Int32) (hw : T.w ≤ 12) : Met l yT_placeOutside wT_placeOutside ({ frames := 0, cells := 0, slots := 0, locals := 0 }) (rPc [.ref (ad 0), .int v] (dC, dI) vwCl (TW ad k T) (TK k) xT) (rQ (some (.int (enc (fnd T.O v 1 T.w))))) 0 0 (fun _ => False) := by
  refine Met.ofW (cc := bT_placeOutside) (maxL := 3) (ret := (some .int)) (by decide) rfl ?_
  intro p e s m args below meth c s₁ B hml hv
  obtain ⟨rfl, hP, hK, hX⟩ := hv
  have hx := B.exec
  have hb := B.bytes
  have hr := B.returns
  have hts := atoms_spec (ws := wT_placeOutside) B.pre
  have hta : ∀ w ∈ AW, w.before _ s = true := fun w h => hts w (List.mem_cons_of_mem _ h)
  have hown : s.vm.findClass RT = some m.cls := findClass_of_methodNamed B.named
  have hlocks := B.notSynchronized
  have hl := lv_entry ([.ref (ad 0), .int v]) (n := 3) (Nat.le_of_ble_eq_true rfl)
  rw [lg_entry_eq]
  generalize (lg_sl ([.ref (ad 0), .int v]) ++ List.replicate (3 - (lg_sl ([.ref (ad 0), .int v])).length) Slot.unset).toArray = ls at hl ⊢
  have hl : lv_has ls 3 [(0, .ref (ad 0)), (1, .int v)] := hl
  refine lv_iconst (v := nI 1) hx hb dT_placeOutside_0 (by decide) ?_
  refine lv_istore_n (lv' := [(2, .int (nI 1)), (0, .ref (ad 0)), (1, .int v)]) hx hb dT_placeOutside_1 rfl hl (by decide) rfl (fun ls hl => ?_)
  have loop2 : ∀ (n : Nat) (i : Nat) (ls : Array Slot), (i + n = T.w + 1) → (1 ≤ i) → (fnd T.O v i n = fnd T.O v 1 T.w) → lv_has ls 3 [(2, .int (nI i)), (0, .ref (ad 0)), (1, .int v)] → W p l e (headSpec wT_placeOutside ({ frames := 0, cells := 0, slots := 0, locals := 0 })).room s m ([.ref (ad 0), .int v] : List Value).toArray below meth c s.heap [] 0 0 (MQ below (rQ (some (.int (enc (fnd T.O v 1 T.w))))) ([.ref (ad 0), .int v] : List Value).toArray s 0 0 (fun _ => False)) (F0 m 2 ls []) := by
    intro n
    induction n with
    | zero =>
      intro i ls hn hi hq hl
      refine lv_iload_n hx hb dT_placeOutside_2 rfl (lv_at hl 0 rfl) ?_
      refine lv_aload_n hx hb dT_placeOutside_3 rfl (lv_at hl 1 rfl) ?_
      refine va_get (D := (dC, dI)) (ci := 0) (v := .int (nI T.w)) (C := RT) (T := FT) (N := 8) hx hb hta iT hown hK hP 0 rfl rfl 5 (by decide) (hta _ m_32) (fun _ h9 => h9) rfl dT_placeOutside_4 ?_
      refine ni_gt (tgt := 28) hx hb dT_placeOutside_7 (by decide) (by omega) (by omega) (fun c_1 => ?_) (fun c_1 => ?_)
      · refine lv_iconst (v := (-1)) hx hb dT_placeOutside_28 (by decide) ?_
        exact W.iret (v := (-1)) hx hb hr (fun t ht hW => ⟨congrArg (fun z => Outcome.returned (some (.int z))) (by rw [← hq]; rfl), ht⟩) (fun q h => nomatch h) dT_placeOutside_29
      · exfalso; omega
    | succ n ih =>
      intro i ls hn hi hq hl
      refine lv_iload_n hx hb dT_placeOutside_2 rfl (lv_at hl 0 rfl) ?_
      refine lv_aload_n hx hb dT_placeOutside_3 rfl (lv_at hl 1 rfl) ?_
      refine va_get (D := (dC, dI)) (ci := 0) (v := .int (nI T.w)) (C := RT) (T := FT) (N := 8) hx hb hta iT hown hK hP 0 rfl rfl 5 (by decide) (hta _ m_32) (fun _ h9 => h9) rfl dT_placeOutside_4 ?_
      refine ni_gt (tgt := 28) hx hb dT_placeOutside_7 (by decide) (by omega) (by omega) (fun c_2 => ?_) (fun c_2 => ?_)
      · exfalso; omega
      · refine lv_aload_n hx hb dT_placeOutside_10 rfl (lv_at hl 1 rfl) ?_
        refine va_get (D := (dC, dI)) (ci := 0) (v := .ref (ad 3)) (C := RT) (T := FT) (N := 8) hx hb hta iT hown hK hP 0 rfl rfl 2 (by decide) (hta _ m_29) (fun _ h9 => h9) rfl dT_placeOutside_11 ?_
        refine lv_iload_n hx hb dT_placeOutside_14 rfl (lv_at hl 0 rfl) ?_
        refine na_iald hx hb hK hP 3 2 rfl rfl (i := i) (by omega) (by decide) dT_placeOutside_15 ?_
        refine lv_iload_n hx hb dT_placeOutside_16 rfl (lv_at hl 2 rfl) ?_
        refine lv_icmp_ne (tgt := 22) hx hb dT_placeOutside_17 (by decide) (fun hc => ?_) (fun hc => ?_)
        · refine lv_iinc (v := nI (i + 1)) (lv' := [(2, .int (nI (i + 1))), (0, .ref (ad 0)), (1, .int v)]) hx hb dT_placeOutside_22 hl (k := 0) rfl (nI_add i 1) (by decide) rfl (fun ls hl => ?_)
          refine lv_goto (tgt := 2) hx hb dT_placeOutside_25 (by decide) ?_
          exact ih (i + 1) ls (by omega) (by omega) (by rw [← hq]; simp [fnd, hc]) (lv_sub hl [0, 1, 2] rfl)
        · refine lv_iload_n hx hb dT_placeOutside_20 rfl (lv_at hl 0 rfl) ?_
          exact W.iret (v := nI i) hx hb hr (fun t ht hW => ⟨congrArg (fun z => Outcome.returned (some (.int z))) (by rw [← hq]; simp [fnd, hc, enc]), ht⟩) (fun q h => nomatch h) dT_placeOutside_21
  exact loop2 T.w 1 ls (by omega) (by omega) rfl (lv_sub hl [0, 1, 2] rfl)

set_option maxHeartbeats 4000000 in
set_option maxRecDepth 100000 in
theorem c_T_startOf (l : Launch) (dC : Nat → ClassId) (dI : Nat → Nat → Nat) (ad : Nat → Nat) (k : Nat → ClassId) (T : TS) (v : Int32) (hh : T.h ≤ 24) : Met l yT_startOf wT_startOf ({ frames := 1, cells := 0, slots := 0, locals := 22 }) (rPc [.ref (ad 0), .int v] (dC, dI) vwCl (TW ad k T) (TK k) xT) (rQ (some (.long (T.start v)))) 0 0 (fun _ => False) := by
  refine Met.ofW (cc := bT_startOf) (maxL := 3) (ret := (some .long)) (by decide) rfl ?_
  intro p e s m args below meth c s₁ B hml hv
  obtain ⟨rfl, hP, hK, hX⟩ := hv
  have hx := B.exec
  have hb := B.bytes
  have hr := B.returns
  have hts := atoms_spec (ws := wT_startOf) B.pre
  have hta : ∀ w ∈ AW, w.before _ s = true := fun w h => hts w (List.mem_cons_of_mem _ h)
  have hown : s.vm.findClass RT = some m.cls := findClass_of_methodNamed B.named
  have hlocks := B.notSynchronized
  have hl := lv_entry ([.ref (ad 0), .int v]) (n := 3) (Nat.le_of_ble_eq_true rfl)
  rw [lg_entry_eq]
  generalize (lg_sl ([.ref (ad 0), .int v]) ++ List.replicate (3 - (lg_sl ([.ref (ad 0), .int v])).length) Slot.unset).toArray = ls at hl ⊢
  have hl : lv_has ls 3 [(0, .ref (ad 0)), (1, .int v)] := hl
  refine lv_aload_n hx hb dT_startOf_0 rfl (lv_at hl 0 rfl) ?_
  refine lv_iload_n hx hb dT_startOf_1 rfl (lv_at hl 1 rfl) ?_
  refine rd_call (va_runV (As := [.int v]) (rest := []) ⟨hx, hb, hml, hown, hta⟩ (c_T_placeInside l dC dI ad k T v (by first | omega | exact hw | exact hh)) (cwV 1 hta (gV m_119 m_121 mp_3 m_2 m_122) rfl rfl rfl (by decide +kernel) ⟨Nat.le_of_ble_eq_true rfl, Nat.le_of_ble_eq_true rfl⟩) (rd_V xT_ok trivial hK hP (ci := 0) (q0 := 0) rfl rfl) rfl rfl hl.1 rfl (lv_room (Nat.le_of_ble_eq_true rfl)) dT_startOf_2 ⟨Nat.zero_le _, Nat.zero_le _⟩) ?_
  refine W.eq (g2 := F0 m 5 ls [.int (enc (fnd T.I v 1 T.h))]) rfl ?_
  refine lv_istore_n (lv' := [(2, .int (enc (fnd T.I v 1 T.h))), (0, .ref (ad 0)), (1, .int v)]) hx hb dT_startOf_5 rfl hl (by decide) rfl (fun ls hl => ?_)
  refine lv_iload_n hx hb dT_startOf_6 rfl (lv_at hl 0 rfl) ?_
  refine lv_iconst (v := (-1)) hx hb dT_startOf_7 (by decide) ?_
  refine en_ne (o := (fnd T.I v 1 T.h)) (tgt := 15) hx hb dT_startOf_8 (by decide) (fun j h => by have := fnd_lt h; omega) (fun j_1 ho => ?_) (fun ho => ?_)
  · rw [ho] at hl
    have hl : lv_has ls 3 [(2, .int (nI j_1)), (0, .ref (ad 0)), (1, .int v)] := hl
    have hj_1 := fnd_lt ho
    refine lv_aload_n hx hb dT_startOf_15 rfl (lv_at hl 1 rfl) ?_
    refine lv_iload_n hx hb dT_startOf_16 rfl (lv_at hl 0 rfl) ?_
    refine lv_iconst (v := nI 0) hx hb dT_startOf_17 (by decide) ?_
    refine rd_call (va_runV (As := [.int (nI j_1), .int (nI 0)]) (rest := []) ⟨hx, hb, hml, hown, hta⟩ (c_T_cell l dC dI ad k T j_1 0 (by first | omega | exact hw | exact hh)) (cwV 2 hta (gV m_123 m_125 mp_4 m_2 m_126) rfl rfl rfl (by decide +kernel) ⟨Nat.le_of_ble_eq_true rfl, Nat.le_of_ble_eq_true rfl⟩) (rd_V xT_ok trivial hK hP (ci := 0) (q0 := 0) rfl rfl) rfl rfl hl.1 rfl (lv_room (Nat.le_of_ble_eq_true rfl)) dT_startOf_18 ⟨Nat.zero_le _, Nat.zero_le _⟩) ?_
    refine W.eq (g2 := F0 m 21 ls [.long (T.C (j_1 * 13 + 0))]) rfl ?_
    exact W.lret (v := T.C (j_1 * 13 + 0)) hx hb hr (fun t ht hW => ⟨congrArg (fun z => Outcome.returned (some (.long z))) (by simp [TS.start, ho]), ht⟩) (fun q h => nomatch h) dT_startOf_21
  · rw [ho] at hl
    have hl : lv_has ls 3 [(2, .int (-1)), (0, .ref (ad 0)), (1, .int v)] := hl
    refine lv_lconst (v := 0) hx hb dT_startOf_11 (by decide) ?_
    refine lv_goto (tgt := 21) hx hb dT_startOf_12 (by decide) ?_
    exact W.lret (v := 0) hx hb hr (fun t ht hW => ⟨congrArg (fun z => Outcome.returned (some (.long z))) (by simp [TS.start, ho]), ht⟩) (fun q h => nomatch h) dT_startOf_21

set_option maxHeartbeats 4000000 in
set_option maxRecDepth 100000 in
theorem c_T_numberBy (l : Launch) (dC : Nat → ClassId) (dI : Nat → Nat → Nat) (ad : Nat → Nat) (k : Nat → ClassId) (T : TS) (i : Nat) (v : Int32) (hw : T.w ≤ 12) (hi : i < 25) : Met l yT_numberBy wT_numberBy ({ frames := 1, cells := 0, slots := 0, locals := 22 }) (rPc [.ref (ad 0), .int (nI i), .int v] (dC, dI) vwCl (TW ad k T) (TK k) xT) (rQ (some (.long (T.num i v)))) 0 0 (fun _ => False) := by
  refine Met.ofW (cc := bT_numberBy) (maxL := 4) (ret := (some .long)) (by decide) rfl ?_
  intro p e s m args below meth c s₁ B hml hv
  obtain ⟨rfl, hP, hK, hX⟩ := hv
  have hx := B.exec
  have hb := B.bytes
  have hr := B.returns
  have hts := atoms_spec (ws := wT_numberBy) B.pre
  have hta : ∀ w ∈ AW, w.before _ s = true := fun w h => hts w (List.mem_cons_of_mem _ h)
  have hown : s.vm.findClass RT = some m.cls := findClass_of_methodNamed B.named
  have hlocks := B.notSynchronized
  have hl := lv_entry ([.ref (ad 0), .int (nI i), .int v]) (n := 4) (Nat.le_of_ble_eq_true rfl)
  rw [lg_entry_eq]
  generalize (lg_sl ([.ref (ad 0), .int (nI i), .int v]) ++ List.replicate (4 - (lg_sl ([.ref (ad 0), .int (nI i), .int v])).length) Slot.unset).toArray = ls at hl ⊢
  have hl : lv_has ls 4 [(0, .ref (ad 0)), (1, .int (nI i)), (2, .int v)] := hl
  refine lv_aload_n hx hb dT_numberBy_0 rfl (lv_at hl 0 rfl) ?_
  refine lv_iload_n hx hb dT_numberBy_1 rfl (lv_at hl 2 rfl) ?_
  refine rd_call (va_runV (As := [.int v]) (rest := []) ⟨hx, hb, hml, hown, hta⟩ (c_T_placeOutside l dC dI ad k T v (by first | omega | exact hw | exact hh)) (cwV 1 hta (gV m_342 m_344 mp_19 m_2 m_345) rfl rfl rfl (by decide +kernel) ⟨Nat.le_of_ble_eq_true rfl, Nat.le_of_ble_eq_true rfl⟩) (rd_V xT_ok trivial hK hP (ci := 0) (q0 := 0) rfl rfl) rfl rfl hl.1 rfl (lv_room (Nat.le_of_ble_eq_true rfl)) dT_numberBy_2 ⟨Nat.zero_le _, Nat.zero_le _⟩) ?_
  refine W.eq (g2 := F0 m 5 ls [.int (enc (fnd T.O v 1 T.w))]) rfl ?_
  refine lv_istore_n (lv' := [(3, .int (enc (fnd T.O v 1 T.w))), (0, .ref (ad 0)), (1, .int (nI i)), (2, .int v)]) hx hb dT_numberBy_5 rfl hl (by decide) rfl (fun ls hl => ?_)
  refine lv_iload_n hx hb dT_numberBy_6 rfl (lv_at hl 0 rfl) ?_
  refine lv_iconst (v := (-1)) hx hb dT_numberBy_7 (by decide) ?_
  refine en_ne (o := (fnd T.O v 1 T.w)) (tgt := 15) hx hb dT_numberBy_8 (by decide) (fun j h => by have := fnd_lt h; omega) (fun j_1 ho => ?_) (fun ho => ?_)
  · rw [ho] at hl
    have hl : lv_has ls 4 [(3, .int (nI j_1)), (0, .ref (ad 0)), (1, .int (nI i)), (2, .int v)] := hl
    have hj_1 := fnd_lt ho
    refine lv_aload_n hx hb dT_numberBy_15 rfl (lv_at hl 1 rfl) ?_
    refine lv_iload_n hx hb dT_numberBy_16 rfl (lv_at hl 2 rfl) ?_
    refine lv_iload_n hx hb dT_numberBy_17 rfl (lv_at hl 0 rfl) ?_
    refine rd_call (va_runV (As := [.int (nI i), .int (nI j_1)]) (rest := []) ⟨hx, hb, hml, hown, hta⟩ (c_T_cell l dC dI ad k T i j_1 (by first | omega | exact hw | exact hh)) (cwV 2 hta (gV m_123 m_125 mp_4 m_2 m_126) rfl rfl rfl (by decide +kernel) ⟨Nat.le_of_ble_eq_true rfl, Nat.le_of_ble_eq_true rfl⟩) (rd_V xT_ok trivial hK hP (ci := 0) (q0 := 0) rfl rfl) rfl rfl hl.1 rfl (lv_room (Nat.le_of_ble_eq_true rfl)) dT_numberBy_18 ⟨Nat.zero_le _, Nat.zero_le _⟩) ?_
    refine W.eq (g2 := F0 m 21 ls [.long (T.C (i * 13 + j_1))]) rfl ?_
    exact W.lret (v := T.C (i * 13 + j_1)) hx hb hr (fun t ht hW => ⟨congrArg (fun z => Outcome.returned (some (.long z))) (by simp [TS.num, ho]), ht⟩) (fun q h => nomatch h) dT_numberBy_21
  · rw [ho] at hl
    have hl : lv_has ls 4 [(3, .int (-1)), (0, .ref (ad 0)), (1, .int (nI i)), (2, .int v)] := hl
    refine lv_lconst (v := 0) hx hb dT_numberBy_11 (by decide) ?_
    refine lv_goto (tgt := 21) hx hb dT_numberBy_12 (by decide) ?_
    exact W.lret (v := 0) hx hb hr (fun t ht hW => ⟨congrArg (fun z => Outcome.returned (some (.long z))) (by simp [TS.num, ho]), ht⟩) (fun q h => nomatch h) dT_numberBy_21

set_option maxHeartbeats 4000000 in
set_option maxRecDepth 100000 in
theorem c_T_sumOfStarts (l : Launch) (dC : Nat → ClassId) (dI : Nat → Nat → Nat) (ad : Nat → Nat) (k : Nat → ClassId) (F : Nat → Int32) (T : TS) (f0 : Nat) (hw : T.w ≤ 12) (hh : T.h ≤ 24) (hf : f0 + 12 ≤ 144) : Met l yT_sumOfStarts wT_sumOfStarts ({ frames := 2, cells := 0, slots := 0, locals := 44 }) (rPc [.ref (ad 0), .ref (ad 6), .int (nI f0)] (dC, dI) vwCl (FW ad k F ++ TW ad k T) (FK k ++ TK k) xT) (rQ (some (.long (sumS T F f0 0 T.w 0)))) 0 0 (fun _ => False) := by
  refine Met.ofW (cc := bT_sumOfStarts) (maxL := 6) (ret := (some .long)) (by decide) rfl ?_
  intro p e s m args below meth c s₁ B hml hv
  obtain ⟨rfl, hP, hK, hX⟩ := hv
  have hx := B.exec
  have hb := B.bytes
  have hr := B.returns
  have hts := atoms_spec (ws := wT_sumOfStarts) B.pre
  have hta : ∀ w ∈ AW, w.before _ s = true := fun w h => hts w (List.mem_cons_of_mem _ h)
  have hown : s.vm.findClass RT = some m.cls := findClass_of_methodNamed B.named
  have hlocks := B.notSynchronized
  have hl := lv_entry ([.ref (ad 0), .ref (ad 6), .int (nI f0)]) (n := 6) (Nat.le_of_ble_eq_true rfl)
  rw [lg_entry_eq]
  generalize (lg_sl ([.ref (ad 0), .ref (ad 6), .int (nI f0)]) ++ List.replicate (6 - (lg_sl ([.ref (ad 0), .ref (ad 6), .int (nI f0)])).length) Slot.unset).toArray = ls at hl ⊢
  have hl : lv_has ls 6 [(0, .ref (ad 0)), (1, .ref (ad 6)), (2, .int (nI f0))] := hl
  refine lv_lconst (v := 0) hx hb dT_sumOfStarts_0 (by decide) ?_
  refine lv_lstore_n (lv' := [(3, .long 0), (0, .ref (ad 0)), (1, .ref (ad 6)), (2, .int (nI f0))]) hx hb dT_sumOfStarts_1 rfl hl (by decide) rfl (fun ls hl => ?_)
  refine lv_iconst (v := nI 0) hx hb dT_sumOfStarts_2 (by decide) ?_
  refine lv_istore (lv' := [(5, .int (nI 0)), (3, .long 0), (0, .ref (ad 0)), (1, .ref (ad 6)), (2, .int (nI f0))]) hx hb dT_sumOfStarts_3 hl (by decide) rfl (fun ls hl => ?_)
  have loop5 : ∀ (n : Nat) (j : Nat) (acc : Int64) (ls : Array Slot), (j + n = T.w) → (sumS T F f0 j n acc = sumS T F f0 0 T.w 0) → lv_has ls 6 [(5, .int (nI j)), (3, .long acc), (0, .ref (ad 0)), (1, .ref (ad 6)), (2, .int (nI f0))] → W p l e (headSpec wT_sumOfStarts ({ frames := 2, cells := 0, slots := 0, locals := 44 })).room s m ([.ref (ad 0), .ref (ad 6), .int (nI f0)] : List Value).toArray below meth c s.heap [] 0 0 (MQ below (rQ (some (.long (sumS T F f0 0 T.w 0)))) ([.ref (ad 0), .ref (ad 6), .int (nI f0)] : List Value).toArray s 0 0 (fun _ => False)) (F0 m 5 ls []) := by
    intro n
    induction n with
    | zero =>
      intro j acc ls hn hq hl
      refine lv_iload hx hb dT_sumOfStarts_5 (lv_at hl 0 rfl) ?_
      refine lv_aload_n hx hb dT_sumOfStarts_7 rfl (lv_at hl 2 rfl) ?_
      refine va_get (D := (dC, dI)) (ci := 0) (v := .int (nI T.w)) (C := RT) (T := FT) (N := 8) hx hb hta iT hown hK hP 1 rfl rfl 5 (by decide) (hta _ m_32) (fun _ h9 => h9) rfl dT_sumOfStarts_8 ?_
      refine ni_ge (tgt := 37) hx hb dT_sumOfStarts_11 (by decide) (by omega) (by omega) (fun c_1 => ?_) (fun c_1 => ?_)
      · refine lv_lload_n hx hb dT_sumOfStarts_37 rfl (lv_at hl 1 rfl) ?_
        exact W.lret (v := acc) hx hb hr (fun t ht hW => ⟨congrArg (fun z => Outcome.returned (some (.long z))) (by rw [← hq]; rfl), ht⟩) (fun q h => nomatch h) dT_sumOfStarts_38
      · exfalso; omega
    | succ n ih =>
      intro j acc ls hn hq hl
      refine lv_iload hx hb dT_sumOfStarts_5 (lv_at hl 0 rfl) ?_
      refine lv_aload_n hx hb dT_sumOfStarts_7 rfl (lv_at hl 2 rfl) ?_
      refine va_get (D := (dC, dI)) (ci := 0) (v := .int (nI T.w)) (C := RT) (T := FT) (N := 8) hx hb hta iT hown hK hP 1 rfl rfl 5 (by decide) (hta _ m_32) (fun _ h9 => h9) rfl dT_sumOfStarts_8 ?_
      refine ni_ge (tgt := 37) hx hb dT_sumOfStarts_11 (by decide) (by omega) (by omega) (fun c_2 => ?_) (fun c_2 => ?_)
      · exfalso; omega
      · refine lv_lload_n hx hb dT_sumOfStarts_14 rfl (lv_at hl 1 rfl) ?_
        refine lv_aload_n hx hb dT_sumOfStarts_15 rfl (lv_at hl 3 rfl) ?_
        refine lv_iload_n hx hb dT_sumOfStarts_16 rfl (lv_at hl 4 rfl) ?_
        refine lv_iload hx hb dT_sumOfStarts_17 (lv_at hl 0 rfl) ?_
        refine lv_iadd hx hb dT_sumOfStarts_19 ?_
        refine st_i (y := nI (f0 + j)) (nI_add _ _) ?_
        refine na_iald hx hb hK hP 0 0 rfl rfl (i := (f0 + j)) (by omega) (by decide) dT_sumOfStarts_20 ?_
        refine lv_i2l (v := (F (f0 + j)).toInt64) hx hb dT_sumOfStarts_21 rfl ?_
        refine lv_aload_n hx hb dT_sumOfStarts_22 rfl (lv_at hl 2 rfl) ?_
        refine lv_iload hx hb dT_sumOfStarts_23 (lv_at hl 0 rfl) ?_
        refine rd_call (va_runV (As := [.int (nI j)]) (rest := [.long ((F (f0 + j)).toInt64), .long acc]) ⟨hx, hb, hml, hown, hta⟩ (c_T_startOf l dC dI ad k T (nI j) (by first | omega | exact hw | exact hh)) (cwV 1 hta (gV m_115 m_117 mp_2 m_2 m_118) rfl rfl rfl (by decide +kernel) ⟨Nat.le_of_ble_eq_true rfl, Nat.le_of_ble_eq_true rfl⟩) (rd_V xT_ok trivial (hK.sub [1, 2, 3, 4, 5] rfl) (hP.sub [1, 2, 3, 4, 5, 6] rfl) (ci := 0) (q0 := 0) rfl rfl) rfl rfl hl.1 rfl (lv_room (Nat.le_of_ble_eq_true rfl)) dT_sumOfStarts_25 ⟨Nat.zero_le _, Nat.zero_le _⟩) ?_
        refine W.eq (g2 := F0 m 28 ls [.long (TS.start T (nI j)), .long ((F (f0 + j)).toInt64), .long acc]) rfl ?_
        refine lv_lmul hx hb dT_sumOfStarts_28 ?_
        refine lv_ladd hx hb dT_sumOfStarts_29 ?_
        refine lv_lstore_n (lv' := [(3, .long (acc + (((F (f0 + j)).toInt64) * (TS.start T (nI j))))), (5, .int (nI j)), (0, .ref (ad 0)), (1, .ref (ad 6)), (2, .int (nI f0))]) hx hb dT_sumOfStarts_30 rfl hl (by decide) rfl (fun ls hl => ?_)
        refine lv_iinc (v := nI (j + 1)) (lv' := [(5, .int (nI (j + 1))), (3, .long (acc + (((F (f0 + j)).toInt64) * (TS.start T (nI j))))), (0, .ref (ad 0)), (1, .ref (ad 6)), (2, .int (nI f0))]) hx hb dT_sumOfStarts_31 hl (k := 1) rfl (nI_add j 1) (by decide) rfl (fun ls hl => ?_)
        refine lv_goto (tgt := 5) hx hb dT_sumOfStarts_34 (by decide) ?_
        exact ih (j + 1) (acc + (((F (f0 + j)).toInt64) * (TS.start T (nI j)))) ls (by omega) (by rw [← hq]; rfl) (lv_sub hl [0, 1, 2, 3, 4] rfl)
  exact loop5 T.w 0 0 ls (by omega) rfl (lv_sub hl [0, 1, 2, 3, 4] rfl)

set_option maxHeartbeats 4000000 in
set_option maxRecDepth 100000 in
theorem c_T_toldFits (l : Launch) (dC : Nat → ClassId) (dI : Nat → Nat → Nat) (ad : Nat → Nat) (k : Nat → ClassId) (T : TS)  (hw : T.w ≤ 12) : Met l yT_toldFits wT_toldFits ({ frames := 1, cells := 0, slots := 0, locals := 21 }) (rPc [.ref (ad 0)] (dC, dI) vwCl (TW ad k T) (TK k) xT) (rQ (some (.int (bI (allF T.G 0 (T.w + 1)))))) 0 0 (fun _ => False) := by
  refine Met.ofW (cc := bT_toldFits) (maxL := 2) (ret := (some .boolean)) (by decide) rfl ?_
  intro p e s m args below meth c s₁ B hml hv
  obtain ⟨rfl, hP, hK, hX⟩ := hv
  have hx := B.exec
  have hb := B.bytes
  have hr := B.returns
  have hts := atoms_spec (ws := wT_toldFits) B.pre
  have hta : ∀ w ∈ AW, w.before _ s = true := fun w h => hts w (List.mem_cons_of_mem _ h)
  have hown : s.vm.findClass RT = some m.cls := findClass_of_methodNamed B.named
  have hlocks := B.notSynchronized
  have hl := lv_entry ([.ref (ad 0)]) (n := 2) (Nat.le_of_ble_eq_true rfl)
  rw [lg_entry_eq]
  generalize (lg_sl ([.ref (ad 0)]) ++ List.replicate (2 - (lg_sl ([.ref (ad 0)])).length) Slot.unset).toArray = ls at hl ⊢
  have hl : lv_has ls 2 [(0, .ref (ad 0))] := hl
  refine lv_iconst (v := nI 0) hx hb dT_toldFits_0 (by decide) ?_
  refine lv_istore_n (lv' := [(1, .int (nI 0)), (0, .ref (ad 0))]) hx hb dT_toldFits_1 rfl hl (by decide) rfl (fun ls hl => ?_)
  have loop2 : ∀ (n : Nat) (i : Nat) (ls : Array Slot), (i + n = T.w + 1) → (allF T.G i n = allF T.G 0 (T.w + 1)) → lv_has ls 2 [(1, .int (nI i)), (0, .ref (ad 0))] → W p l e (headSpec wT_toldFits ({ frames := 1, cells := 0, slots := 0, locals := 21 })).room s m ([.ref (ad 0)] : List Value).toArray below meth c s.heap [] 0 0 (MQ below (rQ (some (.int (bI (allF T.G 0 (T.w + 1)))))) ([.ref (ad 0)] : List Value).toArray s 0 0 (fun _ => False)) (F0 m 2 ls []) := by
    intro n
    induction n with
    | zero =>
      intro i ls hn hq hl
      refine lv_iload_n hx hb dT_toldFits_2 rfl (lv_at hl 0 rfl) ?_
      refine lv_aload_n hx hb dT_toldFits_3 rfl (lv_at hl 1 rfl) ?_
      refine va_get (D := (dC, dI)) (ci := 0) (v := .int (nI T.w)) (C := RT) (T := FT) (N := 8) hx hb hta iT hown hK hP 0 rfl rfl 5 (by decide) (hta _ m_32) (fun _ h9 => h9) rfl dT_toldFits_4 ?_
      refine ni_gt (tgt := 30) hx hb dT_toldFits_7 (by decide) (by omega) (by omega) (fun c_1 => ?_) (fun c_1 => ?_)
      · refine lv_iconst (v := 1) hx hb dT_toldFits_30 (by decide) ?_
        exact W.zret (v := 1) hx hb hr (rfl) (fun t ht hW => ⟨congrArg (fun z => Outcome.returned (some (.int z))) (by rw [← hq]; rfl), ht⟩) (fun q h => nomatch h) dT_toldFits_31
      · exfalso; omega
    | succ n ih =>
      intro i ls hn hq hl
      refine lv_iload_n hx hb dT_toldFits_2 rfl (lv_at hl 0 rfl) ?_
      refine lv_aload_n hx hb dT_toldFits_3 rfl (lv_at hl 1 rfl) ?_
      refine va_get (D := (dC, dI)) (ci := 0) (v := .int (nI T.w)) (C := RT) (T := FT) (N := 8) hx hb hta iT hown hK hP 0 rfl rfl 5 (by decide) (hta _ m_32) (fun _ h9 => h9) rfl dT_toldFits_4 ?_
      refine ni_gt (tgt := 30) hx hb dT_toldFits_7 (by decide) (by omega) (by omega) (fun c_2 => ?_) (fun c_2 => ?_)
      · exfalso; omega
      · refine lv_aload_n hx hb dT_toldFits_10 rfl (lv_at hl 1 rfl) ?_
        refine va_get (D := (dC, dI)) (ci := 0) (v := .ref (ad 4)) (C := RT) (T := FT) (N := 8) hx hb hta iT hown hK hP 0 rfl rfl 3 (by decide) (hta _ m_30) (fun _ h9 => h9) rfl dT_toldFits_11 ?_
        refine lv_iload_n hx hb dT_toldFits_14 rfl (lv_at hl 0 rfl) ?_
        refine na_lald hx hb hK hP 4 3 rfl rfl (i := i) (by omega) (by decide) dT_toldFits_15 ?_
        refine rd_call (va_runS (As := [.long (T.G i)]) (rest := []) ⟨hx, hb, hml, hown, hta⟩ (c_T_fits l dC dI ad k (T.G i)) (cwS 1 hta (gS m_350 m_351 m_2 m_352) rfl rfl rfl (by decide +kernel) ⟨Nat.le_of_ble_eq_true rfl, Nat.le_of_ble_eq_true rfl⟩) (rd_S xT_ok trivial (hK.sub [] rfl) va_P_nil) rfl rfl hl.1 rfl (lv_room (Nat.le_of_ble_eq_true rfl)) dT_toldFits_16 ⟨Nat.zero_le _, Nat.zero_le _⟩) ?_
        refine W.eq (g2 := F0 m 19 ls [.int (bI (fits9 (T.G i)))]) rfl ?_
        refine lb_ne (tgt := 24) hx hb dT_toldFits_19 (by decide) (fun hc => ?_) (fun hc => ?_)
        · refine lv_iinc (v := nI (i + 1)) (lv' := [(1, .int (nI (i + 1))), (0, .ref (ad 0))]) hx hb dT_toldFits_24 hl (k := 0) rfl (nI_add i 1) (by decide) rfl (fun ls hl => ?_)
          refine lv_goto (tgt := 2) hx hb dT_toldFits_27 (by decide) ?_
          exact ih (i + 1) ls (by omega) (by rw [← hq]; simp [allF, hc]) (lv_sub hl [0, 1] rfl)
        · refine lv_iconst (v := 0) hx hb dT_toldFits_22 (by decide) ?_
          exact W.zret (v := 0) hx hb hr (rfl) (fun t ht hW => ⟨congrArg (fun z => Outcome.returned (some (.int z))) (by rw [← hq]; simp [allF, hc, bI]), ht⟩) (fun q h => nomatch h) dT_toldFits_23
  exact loop2 (T.w + 1) 0 ls (by omega) rfl (lv_sub hl [0, 1] rfl)

set_option maxHeartbeats 4000000 in
set_option maxRecDepth 100000 in
theorem c_T_leavingPlace (l : Launch) (dC : Nat → ClassId) (dI : Nat → Nat → Nat) (ad : Nat → Nat) (k : Nat → ClassId) (T : TS)  (hh : T.h ≤ 24) : Met l yT_leavingPlace wT_leavingPlace ({ frames := 1, cells := 0, slots := 0, locals := 22 }) (rPc [.ref (ad 0)] (dC, dI) vwCl (TW ad k T) (TK k) xT) (rQ (some (.int (enc (lvM T 1 T.h none))))) 0 0 (fun _ => False) := by
  refine Met.ofW (cc := bT_leavingPlace) (maxL := 3) (ret := (some .int)) (by decide) rfl ?_
  intro p e s m args below meth c s₁ B hml hv
  obtain ⟨rfl, hP, hK, hX⟩ := hv
  have hx := B.exec
  have hb := B.bytes
  have hr := B.returns
  have hts := atoms_spec (ws := wT_leavingPlace) B.pre
  have hta : ∀ w ∈ AW, w.before _ s = true := fun w h => hts w (List.mem_cons_of_mem _ h)
  have hown : s.vm.findClass RT = some m.cls := findClass_of_methodNamed B.named
  have hlocks := B.notSynchronized
  have hl := lv_entry ([.ref (ad 0)]) (n := 3) (Nat.le_of_ble_eq_true rfl)
  rw [lg_entry_eq]
  generalize (lg_sl ([.ref (ad 0)]) ++ List.replicate (3 - (lg_sl ([.ref (ad 0)])).length) Slot.unset).toArray = ls at hl ⊢
  have hl : lv_has ls 3 [(0, .ref (ad 0))] := hl
  refine lv_iconst (v := (-1)) hx hb dT_leavingPlace_0 (by decide) ?_
  refine lv_istore_n (lv' := [(1, .int (-1)), (0, .ref (ad 0))]) hx hb dT_leavingPlace_1 rfl hl (by decide) rfl (fun ls hl => ?_)
  refine lv_iconst (v := nI 1) hx hb dT_leavingPlace_2 (by decide) ?_
  refine lv_istore_n (lv' := [(2, .int (nI 1)), (1, .int (-1)), (0, .ref (ad 0))]) hx hb dT_leavingPlace_3 rfl hl (by decide) rfl (fun ls hl => ?_)
  have loop4 : ∀ (n : Nat) (i : Nat) (b : Option Nat) (ls : Array Slot), (i + n = T.h + 1) → (1 ≤ i) → (∀ j, b = some j → 1 ≤ j ∧ j ≤ T.h) → (lvM T i n b = lvM T 1 T.h none) → lv_has ls 3 [(2, .int (nI i)), (1, .int (enc b)), (0, .ref (ad 0))] → W p l e (headSpec wT_leavingPlace ({ frames := 1, cells := 0, slots := 0, locals := 22 })).room s m ([.ref (ad 0)] : List Value).toArray below meth c s.heap [] 0 0 (MQ below (rQ (some (.int (enc (lvM T 1 T.h none))))) ([.ref (ad 0)] : List Value).toArray s 0 0 (fun _ => False)) (F0 m 4 ls []) := by
    intro n
    induction n with
    | zero =>
      intro i b ls hn hi hb9 hq hl
      refine lv_iload_n hx hb dT_leavingPlace_4 rfl (lv_at hl 0 rfl) ?_
      refine lv_aload_n hx hb dT_leavingPlace_5 rfl (lv_at hl 2 rfl) ?_
      refine va_get (D := (dC, dI)) (ci := 0) (v := .int (nI T.h)) (C := RT) (T := FT) (N := 8) hx hb hta iT hown hK hP 0 rfl rfl 6 (by decide) (hta _ m_34) (fun _ h9 => h9) rfl dT_leavingPlace_6 ?_
      refine ni_gt (tgt := 51) hx hb dT_leavingPlace_9 (by decide) (by omega) (by omega) (fun c_1 => ?_) (fun c_1 => ?_)
      · refine lv_iload_n hx hb dT_leavingPlace_51 rfl (lv_at hl 1 rfl) ?_
        exact W.iret (v := enc b) hx hb hr (fun t ht hW => ⟨congrArg (fun z => Outcome.returned (some (.int z))) (by rw [← hq]; rfl), ht⟩) (fun q h => nomatch h) dT_leavingPlace_52
      · exfalso; omega
    | succ n ih =>
      intro i b ls hn hi hb9 hq hl
      refine lv_iload_n hx hb dT_leavingPlace_4 rfl (lv_at hl 0 rfl) ?_
      refine lv_aload_n hx hb dT_leavingPlace_5 rfl (lv_at hl 2 rfl) ?_
      refine va_get (D := (dC, dI)) (ci := 0) (v := .int (nI T.h)) (C := RT) (T := FT) (N := 8) hx hb hta iT hown hK hP 0 rfl rfl 6 (by decide) (hta _ m_34) (fun _ h9 => h9) rfl dT_leavingPlace_6 ?_
      refine ni_gt (tgt := 51) hx hb dT_leavingPlace_9 (by decide) (by omega) (by omega) (fun c_2 => ?_) (fun c_2 => ?_)
      · exfalso; omega
      · refine lv_aload_n hx hb dT_leavingPlace_12 rfl (lv_at hl 2 rfl) ?_
        refine lv_iload_n hx hb dT_leavingPlace_13 rfl (lv_at hl 0 rfl) ?_
        refine lv_iconst (v := nI 0) hx hb dT_leavingPlace_14 (by decide) ?_
        refine rd_call (va_runV (As := [.int (nI i), .int (nI 0)]) (rest := []) ⟨hx, hb, hml, hown, hta⟩ (c_T_cell l dC dI ad k T i 0 (by first | omega | exact hw | exact hh)) (cwV 2 hta (gV m_123 m_125 mp_4 m_2 m_126) rfl rfl rfl (by decide +kernel) ⟨Nat.le_of_ble_eq_true rfl, Nat.le_of_ble_eq_true rfl⟩) (rd_V xT_ok trivial hK hP (ci := 0) (q0 := 0) rfl rfl) rfl rfl hl.1 rfl (lv_room (Nat.le_of_ble_eq_true rfl)) dT_leavingPlace_15 ⟨Nat.zero_le _, Nat.zero_le _⟩) ?_
        refine W.eq (g2 := F0 m 18 ls [.long (T.C (i * 13 + 0))]) rfl ?_
        refine lv_lconst (v := 0) hx hb dT_leavingPlace_18 (by decide) ?_
        refine ll_ge (tgt := 45) hx hb dT_leavingPlace_19 dT_leavingPlace_20 (by decide) (fun h1 => ?_) (fun h1 => ?_)
        · refine lv_iinc (v := nI (i + 1)) (lv' := [(2, .int (nI (i + 1))), (1, .int (enc b)), (0, .ref (ad 0))]) hx hb dT_leavingPlace_45 hl (k := 0) rfl (nI_add i 1) (by decide) rfl (fun ls hl => ?_)
          refine lv_goto (tgt := 4) hx hb dT_leavingPlace_48 (by decide) ?_
          exact ih (i + 1) b ls (by omega) (by omega) hb9 (by rw [← hq, lvM, if_neg (by rw [show lvB T i b = false by simp only [lvB, decide_eq_false h1, Bool.false_and]]; decide)]) (lv_sub hl [0, 1, 2] rfl)
        · refine lv_iload_n hx hb dT_leavingPlace_23 rfl (lv_at hl 1 rfl) ?_
          refine lv_iconst (v := (-1)) hx hb dT_leavingPlace_24 (by decide) ?_
          refine en_eq (o := b) (tgt := 43) hx hb dT_leavingPlace_25 (by decide) (fun j h => by have := hb9 j h; omega) (fun ho => ?_) (fun j_3 ho => ?_)
          · rw [ho] at hl
            have hl : lv_has ls 3 [(2, .int (nI i)), (1, .int (-1)), (0, .ref (ad 0))] := hl
            refine lv_iload_n hx hb dT_leavingPlace_43 rfl (lv_at hl 0 rfl) ?_
            refine lv_istore_n (lv' := [(1, .int (nI i)), (2, .int (nI i)), (0, .ref (ad 0))]) hx hb dT_leavingPlace_44 rfl hl (by decide) rfl (fun ls hl => ?_)
            refine lv_iinc (v := nI (i + 1)) (lv' := [(2, .int (nI (i + 1))), (1, .int (nI i)), (0, .ref (ad 0))]) hx hb dT_leavingPlace_45 hl (k := 1) rfl (nI_add i 1) (by decide) rfl (fun ls hl => ?_)
            refine lv_goto (tgt := 4) hx hb dT_leavingPlace_48 (by decide) ?_
            exact ih (i + 1) (some i) ls (by omega) (by omega) (fun j h => by cases h; omega) (by rw [← hq, lvM, if_pos (show lvB T i b = true by first | (rw [ho]; simp only [lvB, decide_eq_true h1, decide_eq_true h2]; rfl; done) | (rw [ho]; simp only [lvB, decide_eq_true h1]; rfl))]) (lv_sub hl [0, 1, 2] rfl)
          · rw [ho] at hl
            have hl : lv_has ls 3 [(2, .int (nI i)), (1, .int (nI j_3)), (0, .ref (ad 0))] := hl
            have hj9 := hb9 _ ho
            refine lv_aload_n hx hb dT_leavingPlace_28 rfl (lv_at hl 2 rfl) ?_
            refine va_get (D := (dC, dI)) (ci := 0) (v := .ref (ad 2)) (C := RT) (T := FT) (N := 8) hx hb hta iT hown hK hP 0 rfl rfl 1 (by decide) (hta _ m_27) (fun _ h9 => h9) rfl dT_leavingPlace_29 ?_
            refine lv_iload_n hx hb dT_leavingPlace_32 rfl (lv_at hl 0 rfl) ?_
            refine na_iald hx hb hK hP 2 1 rfl rfl (i := i) (by omega) (by decide) dT_leavingPlace_33 ?_
            refine lv_aload_n hx hb dT_leavingPlace_34 rfl (lv_at hl 2 rfl) ?_
            refine va_get (D := (dC, dI)) (ci := 0) (v := .ref (ad 2)) (C := RT) (T := FT) (N := 8) hx hb hta iT hown hK hP 0 rfl rfl 1 (by decide) (hta _ m_27) (fun _ h9 => h9) rfl dT_leavingPlace_35 ?_
            refine lv_iload_n hx hb dT_leavingPlace_38 rfl (lv_at hl 1 rfl) ?_
            refine na_iald hx hb hK hP 2 1 rfl rfl (i := j_3) (by omega) (by decide) dT_leavingPlace_39 ?_
            refine li_ge (tgt := 45) hx hb dT_leavingPlace_40 (by decide) (fun h2 => ?_) (fun h2 => ?_)
            · refine lv_iinc (v := nI (i + 1)) (lv' := [(2, .int (nI (i + 1))), (1, .int (nI j_3)), (0, .ref (ad 0))]) hx hb dT_leavingPlace_45 hl (k := 0) rfl (nI_add i 1) (by decide) rfl (fun ls hl => ?_)
              refine lv_goto (tgt := 4) hx hb dT_leavingPlace_48 (by decide) ?_
              exact ih (i + 1) (some j_3) ls (by omega) (by omega) (fun j h => by cases h; omega) (by rw [← hq, lvM, if_neg (by rw [show lvB T i b = false by (rw [ho]; simp only [lvB, decide_eq_true h1, decide_eq_false h2]; rfl)]; decide), ho]) (lv_sub hl [0, 1, 2] rfl)
            · refine lv_iload_n hx hb dT_leavingPlace_43 rfl (lv_at hl 0 rfl) ?_
              refine lv_istore_n (lv' := [(1, .int (nI i)), (2, .int (nI i)), (0, .ref (ad 0))]) hx hb dT_leavingPlace_44 rfl hl (by decide) rfl (fun ls hl => ?_)
              refine lv_iinc (v := nI (i + 1)) (lv' := [(2, .int (nI (i + 1))), (1, .int (nI i)), (0, .ref (ad 0))]) hx hb dT_leavingPlace_45 hl (k := 1) rfl (nI_add i 1) (by decide) rfl (fun ls hl => ?_)
              refine lv_goto (tgt := 4) hx hb dT_leavingPlace_48 (by decide) ?_
              exact ih (i + 1) (some i) ls (by omega) (by omega) (fun j h => by cases h; omega) (by rw [← hq, lvM, if_pos (show lvB T i b = true by first | (rw [ho]; simp only [lvB, decide_eq_true h1, decide_eq_true h2]; rfl; done) | (rw [ho]; simp only [lvB, decide_eq_true h1]; rfl))]) (lv_sub hl [0, 1, 2] rfl)
  exact loop4 T.h 1 none ls (by omega) (by omega) (fun j h => nomatch h) rfl (lv_sub hl [0, 1, 2] rfl)

set_option maxHeartbeats 4000000 in
set_option maxRecDepth 100000 in
theorem c_T_entersBefore (l : Launch) (dC : Nat → ClassId) (dI : Nat → Nat → Nat) (ad : Nat → Nat) (k : Nat → ClassId) (T : TS) (le kk o : Nat) (hle : le < 25) (hk : kk < 13) (ho : o < 13) : Met l yT_entersBefore wT_entersBefore ({ frames := 1, cells := 0, slots := 0, locals := 22 }) (rPc [.ref (ad 0), .int (nI le), .int (nI kk), .int (nI o)] (dC, dI) vwCl (TW ad k T) (TK k) xT) (rQ (some (.int (bI (ebM T le kk o))))) 0 0 (fun _ => False) := by
  refine Met.ofW (cc := bT_entersBefore) (maxL := 8) (ret := (some .boolean)) (by decide) rfl ?_
  intro p e s m args below meth c s₁ B hml hv
  obtain ⟨rfl, hP, hK, hX⟩ := hv
  have hx := B.exec
  have hb := B.bytes
  have hr := B.returns
  have hts := atoms_spec (ws := wT_entersBefore) B.pre
  have hta : ∀ w ∈ AW, w.before _ s = true := fun w h => hts w (List.mem_cons_of_mem _ h)
  have hown : s.vm.findClass RT = some m.cls := findClass_of_methodNamed B.named
  have hlocks := B.notSynchronized
  have hl := lv_entry ([.ref (ad 0), .int (nI le), .int (nI kk), .int (nI o)]) (n := 8) (Nat.le_of_ble_eq_true rfl)
  rw [lg_entry_eq]
  generalize (lg_sl ([.ref (ad 0), .int (nI le), .int (nI kk), .int (nI o)]) ++ List.replicate (8 - (lg_sl ([.ref (ad 0), .int (nI le), .int (nI kk), .int (nI o)])).length) Slot.unset).toArray = ls at hl ⊢
  have hl : lv_has ls 8 [(0, .ref (ad 0)), (1, .int (nI le)), (2, .int (nI kk)), (3, .int (nI o))] := hl
  refine lv_aload_n hx hb dT_entersBefore_0 rfl (lv_at hl 0 rfl) ?_
  refine lv_iconst (v := nI 0) hx hb dT_entersBefore_1 (by decide) ?_
  refine lv_iload_n hx hb dT_entersBefore_2 rfl (lv_at hl 2 rfl) ?_
  refine rd_call (va_runV (As := [.int (nI 0), .int (nI kk)]) (rest := []) ⟨hx, hb, hml, hown, hta⟩ (c_T_cell l dC dI ad k T 0 kk (by first | omega | exact hw | exact hh)) (cwV 2 hta (gV m_123 m_125 mp_4 m_2 m_126) rfl rfl rfl (by decide +kernel) ⟨Nat.le_of_ble_eq_true rfl, Nat.le_of_ble_eq_true rfl⟩) (rd_V xT_ok trivial hK hP (ci := 0) (q0 := 0) rfl rfl) rfl rfl hl.1 rfl (lv_room (Nat.le_of_ble_eq_true rfl)) dT_entersBefore_3 ⟨Nat.zero_le _, Nat.zero_le _⟩) ?_
  refine W.eq (g2 := F0 m 6 ls [.long (T.C (0 * 13 + kk))]) rfl ?_
  refine lv_aload_n hx hb dT_entersBefore_6 rfl (lv_at hl 0 rfl) ?_
  refine lv_iload_n hx hb dT_entersBefore_7 rfl (lv_at hl 1 rfl) ?_
  refine lv_iload_n hx hb dT_entersBefore_8 rfl (lv_at hl 3 rfl) ?_
  refine rd_call (va_runV (As := [.int (nI le), .int (nI o)]) (rest := [.long (T.C (0 * 13 + kk))]) ⟨hx, hb, hml, hown, hta⟩ (c_T_cell l dC dI ad k T le o (by first | omega | exact hw | exact hh)) (cwV 2 hta (gV m_123 m_125 mp_4 m_2 m_126) rfl rfl rfl (by decide +kernel) ⟨Nat.le_of_ble_eq_true rfl, Nat.le_of_ble_eq_true rfl⟩) (rd_V xT_ok trivial hK hP (ci := 0) (q0 := 0) rfl rfl) rfl rfl hl.1 rfl (lv_room (Nat.le_of_ble_eq_true rfl)) dT_entersBefore_9 ⟨Nat.zero_le _, Nat.zero_le _⟩) ?_
  refine W.eq (g2 := F0 m 12 ls [.long (T.C (le * 13 + o)), .long (T.C (0 * 13 + kk))]) rfl ?_
  refine lv_lmul hx hb dT_entersBefore_12 ?_
  refine lv_lstore (lv' := [(4, .long ((T.C (0 * 13 + kk)) * (T.C (le * 13 + o)))), (0, .ref (ad 0)), (1, .int (nI le)), (2, .int (nI kk)), (3, .int (nI o))]) hx hb dT_entersBefore_13 hl (by decide) rfl (fun ls hl => ?_)
  refine lv_aload_n hx hb dT_entersBefore_15 rfl (lv_at hl 1 rfl) ?_
  refine lv_iconst (v := nI 0) hx hb dT_entersBefore_16 (by decide) ?_
  refine lv_iload_n hx hb dT_entersBefore_17 rfl (lv_at hl 4 rfl) ?_
  refine rd_call (va_runV (As := [.int (nI 0), .int (nI o)]) (rest := []) ⟨hx, hb, hml, hown, hta⟩ (c_T_cell l dC dI ad k T 0 o (by first | omega | exact hw | exact hh)) (cwV 2 hta (gV m_123 m_125 mp_4 m_2 m_126) rfl rfl rfl (by decide +kernel) ⟨Nat.le_of_ble_eq_true rfl, Nat.le_of_ble_eq_true rfl⟩) (rd_V xT_ok trivial hK hP (ci := 0) (q0 := 0) rfl rfl) rfl rfl hl.1 rfl (lv_room (Nat.le_of_ble_eq_true rfl)) dT_entersBefore_18 ⟨Nat.zero_le _, Nat.zero_le _⟩) ?_
  refine W.eq (g2 := F0 m 21 ls [.long (T.C (0 * 13 + o))]) rfl ?_
  refine lv_aload_n hx hb dT_entersBefore_21 rfl (lv_at hl 1 rfl) ?_
  refine lv_iload_n hx hb dT_entersBefore_22 rfl (lv_at hl 2 rfl) ?_
  refine lv_iload_n hx hb dT_entersBefore_23 rfl (lv_at hl 3 rfl) ?_
  refine rd_call (va_runV (As := [.int (nI le), .int (nI kk)]) (rest := [.long (T.C (0 * 13 + o))]) ⟨hx, hb, hml, hown, hta⟩ (c_T_cell l dC dI ad k T le kk (by first | omega | exact hw | exact hh)) (cwV 2 hta (gV m_123 m_125 mp_4 m_2 m_126) rfl rfl rfl (by decide +kernel) ⟨Nat.le_of_ble_eq_true rfl, Nat.le_of_ble_eq_true rfl⟩) (rd_V xT_ok trivial hK hP (ci := 0) (q0 := 0) rfl rfl) rfl rfl hl.1 rfl (lv_room (Nat.le_of_ble_eq_true rfl)) dT_entersBefore_24 ⟨Nat.zero_le _, Nat.zero_le _⟩) ?_
  refine W.eq (g2 := F0 m 27 ls [.long (T.C (le * 13 + kk)), .long (T.C (0 * 13 + o))]) rfl ?_
  refine lv_lmul hx hb dT_entersBefore_27 ?_
  refine lv_lstore (lv' := [(6, .long ((T.C (0 * 13 + o)) * (T.C (le * 13 + kk)))), (4, .long ((T.C (0 * 13 + kk)) * (T.C (le * 13 + o)))), (0, .ref (ad 0)), (1, .int (nI le)), (2, .int (nI kk)), (3, .int (nI o))]) hx hb dT_entersBefore_28 hl (by decide) rfl (fun ls hl => ?_)
  refine lv_lload hx hb dT_entersBefore_30 (lv_at hl 1 rfl) ?_
  refine lv_lload hx hb dT_entersBefore_32 (lv_at hl 0 rfl) ?_
  refine ll_lt (tgt := 61) hx hb dT_entersBefore_34 dT_entersBefore_35 (by decide) (fun h1 => ?_) (fun h1 => ?_)
  · refine lv_iconst (v := 1) hx hb dT_entersBefore_61 (by decide) ?_
    refine lv_goto (tgt := 66) hx hb dT_entersBefore_62 (by decide) ?_
    exact W.zret (v := 1) hx hb hr (rfl) (fun t ht hW => ⟨congrArg (fun z => Outcome.returned (some (.int z))) (by simp_all [ebM, bI]), ht⟩) (fun q h => nomatch h) dT_entersBefore_66
  · refine lv_lload hx hb dT_entersBefore_38 (lv_at hl 1 rfl) ?_
    refine lv_lload hx hb dT_entersBefore_40 (lv_at hl 0 rfl) ?_
    refine ll_ne (tgt := 65) hx hb dT_entersBefore_42 dT_entersBefore_43 (by decide) (fun h2 => ?_) (fun h2 => ?_)
    · refine lv_iconst (v := 0) hx hb dT_entersBefore_65 (by decide) ?_
      exact W.zret (v := 0) hx hb hr (rfl) (fun t ht hW => ⟨congrArg (fun z => Outcome.returned (some (.int z))) (by simp_all [ebM, bI]), ht⟩) (fun q h => nomatch h) dT_entersBefore_66
    · refine lv_aload_n hx hb dT_entersBefore_46 rfl (lv_at hl 2 rfl) ?_
      refine va_get (D := (dC, dI)) (ci := 0) (v := .ref (ad 3)) (C := RT) (T := FT) (N := 8) hx hb hta iT hown hK hP 0 rfl rfl 2 (by decide) (hta _ m_29) (fun _ h9 => h9) rfl dT_entersBefore_47 ?_
      refine lv_iload_n hx hb dT_entersBefore_50 rfl (lv_at hl 4 rfl) ?_
      refine na_iald hx hb hK hP 3 2 rfl rfl (i := kk) (by omega) (by decide) dT_entersBefore_51 ?_
      refine lv_aload_n hx hb dT_entersBefore_52 rfl (lv_at hl 2 rfl) ?_
      refine va_get (D := (dC, dI)) (ci := 0) (v := .ref (ad 3)) (C := RT) (T := FT) (N := 8) hx hb hta iT hown hK hP 0 rfl rfl 2 (by decide) (hta _ m_29) (fun _ h9 => h9) rfl dT_entersBefore_53 ?_
      refine lv_iload_n hx hb dT_entersBefore_56 rfl (lv_at hl 5 rfl) ?_
      refine na_iald hx hb hK hP 3 2 rfl rfl (i := o) (by omega) (by decide) dT_entersBefore_57 ?_
      refine li_ge (tgt := 65) hx hb dT_entersBefore_58 (by decide) (fun h3 => ?_) (fun h3 => ?_)
      · refine lv_iconst (v := 0) hx hb dT_entersBefore_65 (by decide) ?_
        exact W.zret (v := 0) hx hb hr (rfl) (fun t ht hW => ⟨congrArg (fun z => Outcome.returned (some (.int z))) (by simp_all [ebM, bI]), ht⟩) (fun q h => nomatch h) dT_entersBefore_66
      · refine lv_iconst (v := 1) hx hb dT_entersBefore_61 (by decide) ?_
        refine lv_goto (tgt := 66) hx hb dT_entersBefore_62 (by decide) ?_
        exact W.zret (v := 1) hx hb hr (rfl) (fun t ht hW => ⟨congrArg (fun z => Outcome.returned (some (.int z))) (by simp_all [ebM, bI]), ht⟩) (fun q h => nomatch h) dT_entersBefore_66

set_option maxHeartbeats 4000000 in
set_option maxRecDepth 100000 in
theorem c_T_enteringPlace (l : Launch) (dC : Nat → ClassId) (dI : Nat → Nat → Nat) (ad : Nat → Nat) (k : Nat → ClassId) (T : TS) (le : Nat) (hw : T.w ≤ 12) (hle : le < 25) : Met l yT_enteringPlace wT_enteringPlace ({ frames := 2, cells := 0, slots := 0, locals := 49 }) (rPc [.ref (ad 0), .int (nI le)] (dC, dI) vwCl (TW ad k T) (TK k) xT) (rQ (some (.int (enc (enM T le 1 T.w none))))) 0 0 (fun _ => False) := by
  refine Met.ofW (cc := bT_enteringPlace) (maxL := 4) (ret := (some .int)) (by decide) rfl ?_
  intro p e s m args below meth c s₁ B hml hv
  obtain ⟨rfl, hP, hK, hX⟩ := hv
  have hx := B.exec
  have hb := B.bytes
  have hr := B.returns
  have hts := atoms_spec (ws := wT_enteringPlace) B.pre
  have hta : ∀ w ∈ AW, w.before _ s = true := fun w h => hts w (List.mem_cons_of_mem _ h)
  have hown : s.vm.findClass RT = some m.cls := findClass_of_methodNamed B.named
  have hlocks := B.notSynchronized
  have hl := lv_entry ([.ref (ad 0), .int (nI le)]) (n := 4) (Nat.le_of_ble_eq_true rfl)
  rw [lg_entry_eq]
  generalize (lg_sl ([.ref (ad 0), .int (nI le)]) ++ List.replicate (4 - (lg_sl ([.ref (ad 0), .int (nI le)])).length) Slot.unset).toArray = ls at hl ⊢
  have hl : lv_has ls 4 [(0, .ref (ad 0)), (1, .int (nI le))] := hl
  refine lv_iconst (v := (-1)) hx hb dT_enteringPlace_0 (by decide) ?_
  refine lv_istore_n (lv' := [(2, .int (-1)), (0, .ref (ad 0)), (1, .int (nI le))]) hx hb dT_enteringPlace_1 rfl hl (by decide) rfl (fun ls hl => ?_)
  refine lv_iconst (v := nI 1) hx hb dT_enteringPlace_2 (by decide) ?_
  refine lv_istore_n (lv' := [(3, .int (nI 1)), (2, .int (-1)), (0, .ref (ad 0)), (1, .int (nI le))]) hx hb dT_enteringPlace_3 rfl hl (by decide) rfl (fun ls hl => ?_)
  have loop4 : ∀ (n : Nat) (i : Nat) (b : Option Nat) (ls : Array Slot), (i + n = T.w + 1) → (1 ≤ i) → (∀ j, b = some j → 1 ≤ j ∧ j ≤ T.w) → (enM T le i n b = enM T le 1 T.w none) → lv_has ls 4 [(3, .int (nI i)), (2, .int (enc b)), (0, .ref (ad 0)), (1, .int (nI le))] → W p l e (headSpec wT_enteringPlace ({ frames := 2, cells := 0, slots := 0, locals := 49 })).room s m ([.ref (ad 0), .int (nI le)] : List Value).toArray below meth c s.heap [] 0 0 (MQ below (rQ (some (.int (enc (enM T le 1 T.w none))))) ([.ref (ad 0), .int (nI le)] : List Value).toArray s 0 0 (fun _ => False)) (F0 m 4 ls []) := by
    intro n
    induction n with
    | zero =>
      intro i b ls hn hi hb9 hq hl
      refine lv_iload_n hx hb dT_enteringPlace_4 rfl (lv_at hl 0 rfl) ?_
      refine lv_aload_n hx hb dT_enteringPlace_5 rfl (lv_at hl 2 rfl) ?_
      refine va_get (D := (dC, dI)) (ci := 0) (v := .int (nI T.w)) (C := RT) (T := FT) (N := 8) hx hb hta iT hown hK hP 0 rfl rfl 5 (by decide) (hta _ m_32) (fun _ h9 => h9) rfl dT_enteringPlace_6 ?_
      refine ni_gt (tgt := 46) hx hb dT_enteringPlace_9 (by decide) (by omega) (by omega) (fun c_1 => ?_) (fun c_1 => ?_)
      · refine lv_iload_n hx hb dT_enteringPlace_46 rfl (lv_at hl 1 rfl) ?_
        exact W.iret (v := enc b) hx hb hr (fun t ht hW => ⟨congrArg (fun z => Outcome.returned (some (.int z))) (by rw [← hq]; rfl), ht⟩) (fun q h => nomatch h) dT_enteringPlace_47
      · exfalso; omega
    | succ n ih =>
      intro i b ls hn hi hb9 hq hl
      refine lv_iload_n hx hb dT_enteringPlace_4 rfl (lv_at hl 0 rfl) ?_
      refine lv_aload_n hx hb dT_enteringPlace_5 rfl (lv_at hl 2 rfl) ?_
      refine va_get (D := (dC, dI)) (ci := 0) (v := .int (nI T.w)) (C := RT) (T := FT) (N := 8) hx hb hta iT hown hK hP 0 rfl rfl 5 (by decide) (hta _ m_32) (fun _ h9 => h9) rfl dT_enteringPlace_6 ?_
      refine ni_gt (tgt := 46) hx hb dT_enteringPlace_9 (by decide) (by omega) (by omega) (fun c_2 => ?_) (fun c_2 => ?_)
      · exfalso; omega
      · refine lv_aload_n hx hb dT_enteringPlace_12 rfl (lv_at hl 2 rfl) ?_
        refine lv_iload_n hx hb dT_enteringPlace_13 rfl (lv_at hl 3 rfl) ?_
        refine lv_iload_n hx hb dT_enteringPlace_14 rfl (lv_at hl 0 rfl) ?_
        refine rd_call (va_runV (As := [.int (nI le), .int (nI i)]) (rest := []) ⟨hx, hb, hml, hown, hta⟩ (c_T_cell l dC dI ad k T le i (by first | omega | exact hw | exact hh)) (cwV 2 hta (gV m_123 m_125 mp_4 m_2 m_126) rfl rfl rfl (by decide +kernel) ⟨Nat.le_of_ble_eq_true rfl, Nat.le_of_ble_eq_true rfl⟩) (rd_V xT_ok trivial hK hP (ci := 0) (q0 := 0) rfl rfl) rfl rfl hl.1 rfl (lv_room (Nat.le_of_ble_eq_true rfl)) dT_enteringPlace_15 ⟨Nat.zero_le _, Nat.zero_le _⟩) ?_
        refine W.eq (g2 := F0 m 18 ls [.long (T.C (le * 13 + i))]) rfl ?_
        refine lv_lconst (v := 0) hx hb dT_enteringPlace_18 (by decide) ?_
        refine ll_le (tgt := 40) hx hb dT_enteringPlace_19 dT_enteringPlace_20 (by decide) (fun h1 => ?_) (fun h1 => ?_)
        · refine lv_iinc (v := nI (i + 1)) (lv' := [(3, .int (nI (i + 1))), (2, .int (enc b)), (0, .ref (ad 0)), (1, .int (nI le))]) hx hb dT_enteringPlace_40 hl (k := 0) rfl (nI_add i 1) (by decide) rfl (fun ls hl => ?_)
          refine lv_goto (tgt := 4) hx hb dT_enteringPlace_43 (by decide) ?_
          exact ih (i + 1) b ls (by omega) (by omega) hb9 (by rw [← hq, enM, if_neg (by rw [show enB T le i b = false by simp only [enB, decide_eq_false h1, Bool.false_and]]; decide)]) (lv_sub hl [0, 1, 2, 3] rfl)
        · refine lv_iload_n hx hb dT_enteringPlace_23 rfl (lv_at hl 1 rfl) ?_
          refine lv_iconst (v := (-1)) hx hb dT_enteringPlace_24 (by decide) ?_
          refine en_eq (o := b) (tgt := 38) hx hb dT_enteringPlace_25 (by decide) (fun j h => by have := hb9 j h; omega) (fun ho => ?_) (fun j_3 ho => ?_)
          · rw [ho] at hl
            have hl : lv_has ls 4 [(3, .int (nI i)), (2, .int (-1)), (0, .ref (ad 0)), (1, .int (nI le))] := hl
            refine lv_iload_n hx hb dT_enteringPlace_38 rfl (lv_at hl 0 rfl) ?_
            refine lv_istore_n (lv' := [(2, .int (nI i)), (3, .int (nI i)), (0, .ref (ad 0)), (1, .int (nI le))]) hx hb dT_enteringPlace_39 rfl hl (by decide) rfl (fun ls hl => ?_)
            refine lv_iinc (v := nI (i + 1)) (lv' := [(3, .int (nI (i + 1))), (2, .int (nI i)), (0, .ref (ad 0)), (1, .int (nI le))]) hx hb dT_enteringPlace_40 hl (k := 1) rfl (nI_add i 1) (by decide) rfl (fun ls hl => ?_)
            refine lv_goto (tgt := 4) hx hb dT_enteringPlace_43 (by decide) ?_
            exact ih (i + 1) (some i) ls (by omega) (by omega) (fun j h => by cases h; omega) (by rw [← hq, enM, if_pos (show enB T le i b = true by first | (rw [ho]; simp only [enB, decide_eq_true h1, h2]; rfl; done) | (rw [ho]; simp only [enB, decide_eq_true h1]; rfl))]) (lv_sub hl [0, 1, 2, 3] rfl)
          · rw [ho] at hl
            have hl : lv_has ls 4 [(3, .int (nI i)), (2, .int (nI j_3)), (0, .ref (ad 0)), (1, .int (nI le))] := hl
            have hj9 := hb9 _ ho
            refine lv_aload_n hx hb dT_enteringPlace_28 rfl (lv_at hl 2 rfl) ?_
            refine lv_iload_n hx hb dT_enteringPlace_29 rfl (lv_at hl 3 rfl) ?_
            refine lv_iload_n hx hb dT_enteringPlace_30 rfl (lv_at hl 0 rfl) ?_
            refine lv_iload_n hx hb dT_enteringPlace_31 rfl (lv_at hl 1 rfl) ?_
            refine rd_call (va_runV (As := [.int (nI le), .int (nI i), .int (nI j_3)]) (rest := []) ⟨hx, hb, hml, hown, hta⟩ (c_T_entersBefore l dC dI ad k T le i j_3 (by first | omega | exact hw | exact hh) (by first | omega | exact hw | exact hh) (by first | omega | exact hw | exact hh)) (cwV 3 hta (gV m_402 m_404 mp_30 m_2 m_405) rfl rfl rfl (by decide +kernel) ⟨Nat.le_of_ble_eq_true rfl, Nat.le_of_ble_eq_true rfl⟩) (rd_V xT_ok trivial hK hP (ci := 0) (q0 := 0) rfl rfl) rfl rfl hl.1 rfl (lv_room (Nat.le_of_ble_eq_true rfl)) dT_enteringPlace_32 ⟨Nat.zero_le _, Nat.zero_le _⟩) ?_
            refine W.eq (g2 := F0 m 35 ls [.int (bI (ebM T le i j_3))]) rfl ?_
            refine lb_eq (tgt := 40) hx hb dT_enteringPlace_35 (by decide) (fun h2 => ?_) (fun h2 => ?_)
            · refine lv_iinc (v := nI (i + 1)) (lv' := [(3, .int (nI (i + 1))), (2, .int (nI j_3)), (0, .ref (ad 0)), (1, .int (nI le))]) hx hb dT_enteringPlace_40 hl (k := 0) rfl (nI_add i 1) (by decide) rfl (fun ls hl => ?_)
              refine lv_goto (tgt := 4) hx hb dT_enteringPlace_43 (by decide) ?_
              exact ih (i + 1) (some j_3) ls (by omega) (by omega) (fun j h => by cases h; omega) (by rw [← hq, enM, if_neg (by rw [show enB T le i b = false by (rw [ho]; simp only [enB, decide_eq_true h1, h2]; rfl)]; decide), ho]) (lv_sub hl [0, 1, 2, 3] rfl)
            · refine lv_iload_n hx hb dT_enteringPlace_38 rfl (lv_at hl 0 rfl) ?_
              refine lv_istore_n (lv' := [(2, .int (nI i)), (3, .int (nI i)), (0, .ref (ad 0)), (1, .int (nI le))]) hx hb dT_enteringPlace_39 rfl hl (by decide) rfl (fun ls hl => ?_)
              refine lv_iinc (v := nI (i + 1)) (lv' := [(3, .int (nI (i + 1))), (2, .int (nI i)), (0, .ref (ad 0)), (1, .int (nI le))]) hx hb dT_enteringPlace_40 hl (k := 1) rfl (nI_add i 1) (by decide) rfl (fun ls hl => ?_)
              refine lv_goto (tgt := 4) hx hb dT_enteringPlace_43 (by decide) ?_
              exact ih (i + 1) (some i) ls (by omega) (by omega) (fun j h => by cases h; omega) (by rw [← hq, enM, if_pos (show enB T le i b = true by first | (rw [ho]; simp only [enB, decide_eq_true h1, h2]; rfl; done) | (rw [ho]; simp only [enB, decide_eq_true h1]; rfl))]) (lv_sub hl [0, 1, 2, 3] rfl)
  exact loop4 T.w 1 none ls (by omega) (by omega) (fun j h => nomatch h) rfl (lv_sub hl [0, 1, 2, 3] rfl)

set_option maxHeartbeats 4000000 in
set_option maxRecDepth 100000 in
theorem c_T_afterStep (l : Launch) (dC : Nat → ClassId) (dI : Nat → Nat → Nat) (ad : Nat → Nat) (k : Nat → ClassId) (T : TS) (v q x z : Int64)  : Met l yT_afterStep wT_afterStep ({ frames := 0, cells := 0, slots := 0, locals := 0 }) (rPc [.ref (ad 0), .long v, .long q, .long x, .long z] (dC, dI) vwCl (TW ad k T) (TK k) xT) (rQ (some (.long (afM T.d v q x z)))) 0 0 (fun _ => False) := by
  refine Met.ofW (cc := bT_afterStep) (maxL := 9) (ret := (some .long)) (by decide) rfl ?_
  intro p e s m args below meth c s₁ B hml hv
  obtain ⟨rfl, hP, hK, hX⟩ := hv
  have hx := B.exec
  have hb := B.bytes
  have hr := B.returns
  have hts := atoms_spec (ws := wT_afterStep) B.pre
  have hta : ∀ w ∈ AW, w.before _ s = true := fun w h => hts w (List.mem_cons_of_mem _ h)
  have hown : s.vm.findClass RT = some m.cls := findClass_of_methodNamed B.named
  have hlocks := B.notSynchronized
  have hl := lv_entry ([.ref (ad 0), .long v, .long q, .long x, .long z]) (n := 9) (Nat.le_of_ble_eq_true rfl)
  rw [lg_entry_eq]
  generalize (lg_sl ([.ref (ad 0), .long v, .long q, .long x, .long z]) ++ List.replicate (9 - (lg_sl ([.ref (ad 0), .long v, .long q, .long x, .long z])).length) Slot.unset).toArray = ls at hl ⊢
  have hl : lv_has ls 9 [(0, .ref (ad 0)), (1, .long v), (3, .long q), (5, .long x), (7, .long z)] := hl
  refine lv_aload_n hx hb dT_afterStep_0 rfl (lv_at hl 0 rfl) ?_
  refine va_get (D := (dC, dI)) (ci := 0) (v := .long T.d) (C := RT) (T := FT) (N := 8) hx hb hta iT hown hK hP 0 rfl rfl 7 (by decide) (hta _ m_36) (fun _ h9 => h9) rfl dT_afterStep_1 ?_
  refine lv_lconst (v := 0) hx hb dT_afterStep_4 (by decide) ?_
  refine ll_ne (tgt := 13) hx hb dT_afterStep_5 dT_afterStep_6 (by decide) (fun h1 => ?_) (fun h1 => ?_)
  · refine lv_lload_n hx hb dT_afterStep_13 rfl (lv_at hl 1 rfl) ?_
    refine lv_lload_n hx hb dT_afterStep_14 rfl (lv_at hl 2 rfl) ?_
    refine lv_lmul hx hb dT_afterStep_15 ?_
    refine lv_lload hx hb dT_afterStep_16 (lv_at hl 3 rfl) ?_
    refine lv_lload hx hb dT_afterStep_18 (lv_at hl 4 rfl) ?_
    refine lv_lmul hx hb dT_afterStep_20 ?_
    refine lv_lsub hx hb dT_afterStep_21 ?_
    refine lv_aload_n hx hb dT_afterStep_22 rfl (lv_at hl 0 rfl) ?_
    refine va_get (D := (dC, dI)) (ci := 0) (v := .long T.d) (C := RT) (T := FT) (N := 8) hx hb hta iT hown hK hP 0 rfl rfl 7 (by decide) (hta _ m_36) (fun _ h9 => h9) rfl dT_afterStep_23 ?_
    refine lv_ldiv hx hb dT_afterStep_26 (h1) ?_
    exact W.lret (v := ((v * q) - (x * z)) / T.d) hx hb hr (fun t ht hW => ⟨congrArg (fun z => Outcome.returned (some (.long z))) (by simp [afM, h1]), ht⟩) (fun q h => nomatch h) dT_afterStep_27
  · refine lv_lconst (v := 0) hx hb dT_afterStep_9 (by decide) ?_
    refine lv_goto (tgt := 27) hx hb dT_afterStep_10 (by decide) ?_
    exact W.lret (v := 0) hx hb hr (fun t ht hW => ⟨congrArg (fun z => Outcome.returned (some (.long z))) (by simp [afM, h1]), ht⟩) (fun q h => nomatch h) dT_afterStep_27

set_option maxHeartbeats 4000000 in
set_option maxRecDepth 100000 in
theorem c_T_otherFits (l : Launch) (dC : Nat → ClassId) (dI : Nat → Nat → Nat) (ad : Nat → Nat) (k : Nat → ClassId) (T : TS) (i le en : Nat) (hw : T.w ≤ 12) (hi : i < 25) (hle : le < 25) (hen : en < 13) : Met l yT_otherFits wT_otherFits ({ frames := 1, cells := 0, slots := 0, locals := 28 }) (rPc [.ref (ad 0), .int (nI i), .int (nI le), .int (nI en)] (dC, dI) vwCl (TW ad k T) (TK k) xT) (rQ (some (.int (bI (otM T i le en 0 (T.w + 1)))))) 0 0 (fun _ => False) := by
  refine Met.ofW (cc := bT_otherFits) (maxL := 9) (ret := (some .boolean)) (by decide) rfl ?_
  intro p e s m args below meth c s₁ B hml hv
  obtain ⟨rfl, hP, hK, hX⟩ := hv
  have hx := B.exec
  have hb := B.bytes
  have hr := B.returns
  have hts := atoms_spec (ws := wT_otherFits) B.pre
  have hta : ∀ w ∈ AW, w.before _ s = true := fun w h => hts w (List.mem_cons_of_mem _ h)
  have hown : s.vm.findClass RT = some m.cls := findClass_of_methodNamed B.named
  have hlocks := B.notSynchronized
  have hl := lv_entry ([.ref (ad 0), .int (nI i), .int (nI le), .int (nI en)]) (n := 9) (Nat.le_of_ble_eq_true rfl)
  rw [lg_entry_eq]
  generalize (lg_sl ([.ref (ad 0), .int (nI i), .int (nI le), .int (nI en)]) ++ List.replicate (9 - (lg_sl ([.ref (ad 0), .int (nI i), .int (nI le), .int (nI en)])).length) Slot.unset).toArray = ls at hl ⊢
  have hl : lv_has ls 9 [(0, .ref (ad 0)), (1, .int (nI i)), (2, .int (nI le)), (3, .int (nI en))] := hl
  refine lv_aload_n hx hb dT_otherFits_0 rfl (lv_at hl 0 rfl) ?_
  refine lv_iload_n hx hb dT_otherFits_1 rfl (lv_at hl 2 rfl) ?_
  refine lv_iload_n hx hb dT_otherFits_2 rfl (lv_at hl 3 rfl) ?_
  refine rd_call (va_runV (As := [.int (nI le), .int (nI en)]) (rest := []) ⟨hx, hb, hml, hown, hta⟩ (c_T_cell l dC dI ad k T le en (by first | omega | exact hw | exact hh)) (cwV 2 hta (gV m_123 m_125 mp_4 m_2 m_126) rfl rfl rfl (by decide +kernel) ⟨Nat.le_of_ble_eq_true rfl, Nat.le_of_ble_eq_true rfl⟩) (rd_V xT_ok trivial hK hP (ci := 0) (q0 := 0) rfl rfl) rfl rfl hl.1 rfl (lv_room (Nat.le_of_ble_eq_true rfl)) dT_otherFits_3 ⟨Nat.zero_le _, Nat.zero_le _⟩) ?_
  refine W.eq (g2 := F0 m 6 ls [.long (T.C (le * 13 + en))]) rfl ?_
  refine lv_lstore (lv' := [(4, .long (T.C (le * 13 + en))), (0, .ref (ad 0)), (1, .int (nI i)), (2, .int (nI le)), (3, .int (nI en))]) hx hb dT_otherFits_6 hl (by decide) rfl (fun ls hl => ?_)
  refine lv_aload_n hx hb dT_otherFits_8 rfl (lv_at hl 1 rfl) ?_
  refine lv_iload_n hx hb dT_otherFits_9 rfl (lv_at hl 2 rfl) ?_
  refine lv_iload_n hx hb dT_otherFits_10 rfl (lv_at hl 4 rfl) ?_
  refine rd_call (va_runV (As := [.int (nI i), .int (nI en)]) (rest := []) ⟨hx, hb, hml, hown, hta⟩ (c_T_cell l dC dI ad k T i en (by first | omega | exact hw | exact hh)) (cwV 2 hta (gV m_123 m_125 mp_4 m_2 m_126) rfl rfl rfl (by decide +kernel) ⟨Nat.le_of_ble_eq_true rfl, Nat.le_of_ble_eq_true rfl⟩) (rd_V xT_ok trivial hK hP (ci := 0) (q0 := 0) rfl rfl) rfl rfl hl.1 rfl (lv_room (Nat.le_of_ble_eq_true rfl)) dT_otherFits_11 ⟨Nat.zero_le _, Nat.zero_le _⟩) ?_
  refine W.eq (g2 := F0 m 14 ls [.long (T.C (i * 13 + en))]) rfl ?_
  refine lv_lstore (lv' := [(6, .long (T.C (i * 13 + en))), (4, .long (T.C (le * 13 + en))), (0, .ref (ad 0)), (1, .int (nI i)), (2, .int (nI le)), (3, .int (nI en))]) hx hb dT_otherFits_14 hl (by decide) rfl (fun ls hl => ?_)
  refine lv_iconst (v := nI 0) hx hb dT_otherFits_16 (by decide) ?_
  refine lv_istore (lv' := [(8, .int (nI 0)), (6, .long (T.C (i * 13 + en))), (4, .long (T.C (le * 13 + en))), (0, .ref (ad 0)), (1, .int (nI i)), (2, .int (nI le)), (3, .int (nI en))]) hx hb dT_otherFits_17 hl (by decide) rfl (fun ls hl => ?_)
  have loop19 : ∀ (n : Nat) (j : Nat) (ls : Array Slot), (j + n = T.w + 1) → (otM T i le en j n = otM T i le en 0 (T.w + 1)) → lv_has ls 9 [(8, .int (nI j)), (6, .long (T.C (i * 13 + en))), (4, .long (T.C (le * 13 + en))), (0, .ref (ad 0)), (1, .int (nI i)), (2, .int (nI le)), (3, .int (nI en))] → W p l e (headSpec wT_otherFits ({ frames := 1, cells := 0, slots := 0, locals := 28 })).room s m ([.ref (ad 0), .int (nI i), .int (nI le), .int (nI en)] : List Value).toArray below meth c s.heap [] 0 0 (MQ below (rQ (some (.int (bI (otM T i le en 0 (T.w + 1)))))) ([.ref (ad 0), .int (nI i), .int (nI le), .int (nI en)] : List Value).toArray s 0 0 (fun _ => False)) (F0 m 19 ls []) := by
    intro n
    induction n with
    | zero =>
      intro j ls hn hq hl
      refine lv_iload hx hb dT_otherFits_19 (lv_at hl 0 rfl) ?_
      refine lv_aload_n hx hb dT_otherFits_21 rfl (lv_at hl 3 rfl) ?_
      refine va_get (D := (dC, dI)) (ci := 0) (v := .int (nI T.w)) (C := RT) (T := FT) (N := 8) hx hb hta iT hown hK hP 0 rfl rfl 5 (by decide) (hta _ m_32) (fun _ h9 => h9) rfl dT_otherFits_22 ?_
      refine ni_gt (tgt := 70) hx hb dT_otherFits_25 (by decide) (by omega) (by omega) (fun c_1 => ?_) (fun c_1 => ?_)
      · refine lv_iconst (v := 1) hx hb dT_otherFits_70 (by decide) ?_
        exact W.zret (v := 1) hx hb hr (rfl) (fun t ht hW => ⟨congrArg (fun z => Outcome.returned (some (.int z))) (by rw [← hq]; rfl), ht⟩) (fun q h => nomatch h) dT_otherFits_71
      · exfalso; omega
    | succ n ih =>
      intro j ls hn hq hl
      refine lv_iload hx hb dT_otherFits_19 (lv_at hl 0 rfl) ?_
      refine lv_aload_n hx hb dT_otherFits_21 rfl (lv_at hl 3 rfl) ?_
      refine va_get (D := (dC, dI)) (ci := 0) (v := .int (nI T.w)) (C := RT) (T := FT) (N := 8) hx hb hta iT hown hK hP 0 rfl rfl 5 (by decide) (hta _ m_32) (fun _ h9 => h9) rfl dT_otherFits_22 ?_
      refine ni_gt (tgt := 70) hx hb dT_otherFits_25 (by decide) (by omega) (by omega) (fun c_2 => ?_) (fun c_2 => ?_)
      · exfalso; omega
      · refine lv_iload hx hb dT_otherFits_28 (lv_at hl 0 rfl) ?_
        refine lv_iload_n hx hb dT_otherFits_30 rfl (lv_at hl 6 rfl) ?_
        refine ni_eq (tgt := 64) hx hb dT_otherFits_31 (by decide) (by omega) (by omega) (fun h1 => ?_) (fun h1 => ?_)
        · refine lv_iinc (v := nI (j + 1)) (lv' := [(8, .int (nI (j + 1))), (6, .long (T.C (i * 13 + en))), (4, .long (T.C (le * 13 + en))), (0, .ref (ad 0)), (1, .int (nI i)), (2, .int (nI le)), (3, .int (nI en))]) hx hb dT_otherFits_64 hl (k := 0) rfl (nI_add j 1) (by decide) rfl (fun ls hl => ?_)
          refine lv_goto (tgt := 19) hx hb dT_otherFits_67 (by decide) ?_
          exact ih (j + 1) ls (by omega) (by rw [← hq]; simp_all [otM]) (lv_sub hl [0, 1, 2, 3, 4, 5, 6] rfl)
        · refine lv_aload_n hx hb dT_otherFits_34 rfl (lv_at hl 3 rfl) ?_
          refine lv_aload_n hx hb dT_otherFits_35 rfl (lv_at hl 3 rfl) ?_
          refine lv_iload_n hx hb dT_otherFits_36 rfl (lv_at hl 4 rfl) ?_
          refine lv_iload hx hb dT_otherFits_37 (lv_at hl 0 rfl) ?_
          refine rd_call (va_runV (As := [.int (nI i), .int (nI j)]) (rest := [.ref (ad 0)]) ⟨hx, hb, hml, hown, hta⟩ (c_T_cell l dC dI ad k T i j (by first | omega | exact hw | exact hh)) (cwV 2 hta (gV m_123 m_125 mp_4 m_2 m_126) rfl rfl rfl (by decide +kernel) ⟨Nat.le_of_ble_eq_true rfl, Nat.le_of_ble_eq_true rfl⟩) (rd_V xT_ok trivial hK hP (ci := 0) (q0 := 0) rfl rfl) rfl rfl hl.1 rfl (lv_room (Nat.le_of_ble_eq_true rfl)) dT_otherFits_39 ⟨Nat.zero_le _, Nat.zero_le _⟩) ?_
          refine W.eq (g2 := F0 m 42 ls [.long (T.C (i * 13 + j)), .ref (ad 0)]) rfl ?_
          refine lv_lload hx hb dT_otherFits_42 (lv_at hl 2 rfl) ?_
          refine lv_lload hx hb dT_otherFits_44 (lv_at hl 1 rfl) ?_
          refine lv_aload_n hx hb dT_otherFits_46 rfl (lv_at hl 3 rfl) ?_
          refine lv_iload_n hx hb dT_otherFits_47 rfl (lv_at hl 5 rfl) ?_
          refine lv_iload hx hb dT_otherFits_48 (lv_at hl 0 rfl) ?_
          refine rd_call (va_runV (As := [.int (nI le), .int (nI j)]) (rest := [.long (T.C (i * 13 + en)), .long (T.C (le * 13 + en)), .long (T.C (i * 13 + j)), .ref (ad 0)]) ⟨hx, hb, hml, hown, hta⟩ (c_T_cell l dC dI ad k T le j (by first | omega | exact hw | exact hh)) (cwV 2 hta (gV m_123 m_125 mp_4 m_2 m_126) rfl rfl rfl (by decide +kernel) ⟨Nat.le_of_ble_eq_true rfl, Nat.le_of_ble_eq_true rfl⟩) (rd_V xT_ok trivial hK hP (ci := 0) (q0 := 0) rfl rfl) rfl rfl hl.1 rfl (lv_room (Nat.le_of_ble_eq_true rfl)) dT_otherFits_50 ⟨Nat.zero_le _, Nat.zero_le _⟩) ?_
          refine W.eq (g2 := F0 m 53 ls [.long (T.C (le * 13 + j)), .long (T.C (i * 13 + en)), .long (T.C (le * 13 + en)), .long (T.C (i * 13 + j)), .ref (ad 0)]) rfl ?_
          refine rd_call (va_runV (As := [.long (T.C (i * 13 + j)), .long (T.C (le * 13 + en)), .long (T.C (i * 13 + en)), .long (T.C (le * 13 + j))]) (rest := []) ⟨hx, hb, hml, hown, hta⟩ (c_T_afterStep l dC dI ad k T (T.C (i * 13 + j)) (T.C (le * 13 + en)) (T.C (i * 13 + en)) (T.C (le * 13 + j))) (cwV 4 hta (gV m_414 m_416 mp_33 m_2 m_417) rfl rfl rfl (by decide +kernel) ⟨Nat.le_of_ble_eq_true rfl, Nat.le_of_ble_eq_true rfl⟩) (rd_V xT_ok trivial hK hP (ci := 0) (q0 := 0) rfl rfl) rfl rfl hl.1 rfl (lv_room (Nat.le_of_ble_eq_true rfl)) dT_otherFits_53 ⟨Nat.zero_le _, Nat.zero_le _⟩) ?_
          refine W.eq (g2 := F0 m 56 ls [.long (afM T.d (T.C (i * 13 + j)) (T.C (le * 13 + en)) (T.C (i * 13 + en)) (T.C (le * 13 + j)))]) rfl ?_
          refine rd_call (va_runS (As := [.long (afM T.d (T.C (i * 13 + j)) (T.C (le * 13 + en)) (T.C (i * 13 + en)) (T.C (le * 13 + j)))]) (rest := []) ⟨hx, hb, hml, hown, hta⟩ (c_T_fits l dC dI ad k (afM T.d (T.C (i * 13 + j)) (T.C (le * 13 + en)) (T.C (i * 13 + en)) (T.C (le * 13 + j)))) (cwS 1 hta (gS m_350 m_351 m_2 m_352) rfl rfl rfl (by decide +kernel) ⟨Nat.le_of_ble_eq_true rfl, Nat.le_of_ble_eq_true rfl⟩) (rd_S xT_ok trivial (hK.sub [] rfl) va_P_nil) rfl rfl hl.1 rfl (lv_room (Nat.le_of_ble_eq_true rfl)) dT_otherFits_56 ⟨Nat.zero_le _, Nat.zero_le _⟩) ?_
          refine W.eq (g2 := F0 m 59 ls [.int (bI (fits9 (afM T.d (T.C (i * 13 + j)) (T.C (le * 13 + en)) (T.C (i * 13 + en)) (T.C (le * 13 + j)))))]) rfl ?_
          refine lb_ne (tgt := 64) hx hb dT_otherFits_59 (by decide) (fun h2 => ?_) (fun h2 => ?_)
          · refine lv_iinc (v := nI (j + 1)) (lv' := [(8, .int (nI (j + 1))), (6, .long (T.C (i * 13 + en))), (4, .long (T.C (le * 13 + en))), (0, .ref (ad 0)), (1, .int (nI i)), (2, .int (nI le)), (3, .int (nI en))]) hx hb dT_otherFits_64 hl (k := 0) rfl (nI_add j 1) (by decide) rfl (fun ls hl => ?_)
            refine lv_goto (tgt := 19) hx hb dT_otherFits_67 (by decide) ?_
            exact ih (j + 1) ls (by omega) (by rw [← hq]; simp_all [otM]) (lv_sub hl [0, 1, 2, 3, 4, 5, 6] rfl)
          · refine lv_iconst (v := 0) hx hb dT_otherFits_62 (by decide) ?_
            exact W.zret (v := 0) hx hb hr (rfl) (fun t ht hW => ⟨congrArg (fun z => Outcome.returned (some (.int z))) (by rw [← hq]; simp [otM, h1, h2, bI]), ht⟩) (fun q h => nomatch h) dT_otherFits_63
  exact loop19 (T.w + 1) 0 ls (by omega) rfl (lv_sub hl [0, 1, 2, 3, 4, 5, 6] rfl)

set_option maxHeartbeats 4000000 in
set_option maxRecDepth 100000 in
theorem c_T_stepFits (l : Launch) (dC : Nat → ClassId) (dI : Nat → Nat → Nat) (ad : Nat → Nat) (k : Nat → ClassId) (T : TS) (le en : Nat) (hw : T.w ≤ 12) (hh : T.h ≤ 24) (hle : le < 25) (hen : en < 13) : Met l yT_stepFits wT_stepFits ({ frames := 2, cells := 0, slots := 0, locals := 56 }) (rPc [.ref (ad 0), .int (nI le), .int (nI en)] (dC, dI) vwCl (TW ad k T) (TK k) xT) (rQ (some (.int (bI (sfM T le en 0 (T.h + 1)))))) 0 0 (fun _ => False) := by
  refine Met.ofW (cc := bT_stepFits) (maxL := 4) (ret := (some .boolean)) (by decide) rfl ?_
  intro p e s m args below meth c s₁ B hml hv
  obtain ⟨rfl, hP, hK, hX⟩ := hv
  have hx := B.exec
  have hb := B.bytes
  have hr := B.returns
  have hts := atoms_spec (ws := wT_stepFits) B.pre
  have hta : ∀ w ∈ AW, w.before _ s = true := fun w h => hts w (List.mem_cons_of_mem _ h)
  have hown : s.vm.findClass RT = some m.cls := findClass_of_methodNamed B.named
  have hlocks := B.notSynchronized
  have hl := lv_entry ([.ref (ad 0), .int (nI le), .int (nI en)]) (n := 4) (Nat.le_of_ble_eq_true rfl)
  rw [lg_entry_eq]
  generalize (lg_sl ([.ref (ad 0), .int (nI le), .int (nI en)]) ++ List.replicate (4 - (lg_sl ([.ref (ad 0), .int (nI le), .int (nI en)])).length) Slot.unset).toArray = ls at hl ⊢
  have hl : lv_has ls 4 [(0, .ref (ad 0)), (1, .int (nI le)), (2, .int (nI en))] := hl
  refine lv_iconst (v := nI 0) hx hb dT_stepFits_0 (by decide) ?_
  refine lv_istore_n (lv' := [(3, .int (nI 0)), (0, .ref (ad 0)), (1, .int (nI le)), (2, .int (nI en))]) hx hb dT_stepFits_1 rfl hl (by decide) rfl (fun ls hl => ?_)
  have loop2 : ∀ (n : Nat) (i : Nat) (ls : Array Slot), (i + n = T.h + 1) → (sfM T le en i n = sfM T le en 0 (T.h + 1)) → lv_has ls 4 [(3, .int (nI i)), (0, .ref (ad 0)), (1, .int (nI le)), (2, .int (nI en))] → W p l e (headSpec wT_stepFits ({ frames := 2, cells := 0, slots := 0, locals := 56 })).room s m ([.ref (ad 0), .int (nI le), .int (nI en)] : List Value).toArray below meth c s.heap [] 0 0 (MQ below (rQ (some (.int (bI (sfM T le en 0 (T.h + 1)))))) ([.ref (ad 0), .int (nI le), .int (nI en)] : List Value).toArray s 0 0 (fun _ => False)) (F0 m 2 ls []) := by
    intro n
    induction n with
    | zero =>
      intro i ls hn hq hl
      refine lv_iload_n hx hb dT_stepFits_2 rfl (lv_at hl 0 rfl) ?_
      refine lv_aload_n hx hb dT_stepFits_3 rfl (lv_at hl 1 rfl) ?_
      refine va_get (D := (dC, dI)) (ci := 0) (v := .int (nI T.h)) (C := RT) (T := FT) (N := 8) hx hb hta iT hown hK hP 0 rfl rfl 6 (by decide) (hta _ m_34) (fun _ h9 => h9) rfl dT_stepFits_4 ?_
      refine ni_gt (tgt := 33) hx hb dT_stepFits_7 (by decide) (by omega) (by omega) (fun c_1 => ?_) (fun c_1 => ?_)
      · refine lv_iconst (v := 1) hx hb dT_stepFits_33 (by decide) ?_
        exact W.zret (v := 1) hx hb hr (rfl) (fun t ht hW => ⟨congrArg (fun z => Outcome.returned (some (.int z))) (by rw [← hq]; rfl), ht⟩) (fun q h => nomatch h) dT_stepFits_34
      · exfalso; omega
    | succ n ih =>
      intro i ls hn hq hl
      refine lv_iload_n hx hb dT_stepFits_2 rfl (lv_at hl 0 rfl) ?_
      refine lv_aload_n hx hb dT_stepFits_3 rfl (lv_at hl 1 rfl) ?_
      refine va_get (D := (dC, dI)) (ci := 0) (v := .int (nI T.h)) (C := RT) (T := FT) (N := 8) hx hb hta iT hown hK hP 0 rfl rfl 6 (by decide) (hta _ m_34) (fun _ h9 => h9) rfl dT_stepFits_4 ?_
      refine ni_gt (tgt := 33) hx hb dT_stepFits_7 (by decide) (by omega) (by omega) (fun c_2 => ?_) (fun c_2 => ?_)
      · exfalso; omega
      · refine lv_iload_n hx hb dT_stepFits_10 rfl (lv_at hl 0 rfl) ?_
        refine lv_iload_n hx hb dT_stepFits_11 rfl (lv_at hl 2 rfl) ?_
        refine ni_eq (tgt := 27) hx hb dT_stepFits_12 (by decide) (by omega) (by omega) (fun h1 => ?_) (fun h1 => ?_)
        · refine lv_iinc (v := nI (i + 1)) (lv' := [(3, .int (nI (i + 1))), (0, .ref (ad 0)), (1, .int (nI le)), (2, .int (nI en))]) hx hb dT_stepFits_27 hl (k := 0) rfl (nI_add i 1) (by decide) rfl (fun ls hl => ?_)
          refine lv_goto (tgt := 2) hx hb dT_stepFits_30 (by decide) ?_
          exact ih (i + 1) ls (by omega) (by rw [← hq]; simp_all [sfM]) (lv_sub hl [0, 1, 2, 3] rfl)
        · refine lv_aload_n hx hb dT_stepFits_15 rfl (lv_at hl 1 rfl) ?_
          refine lv_iload_n hx hb dT_stepFits_16 rfl (lv_at hl 0 rfl) ?_
          refine lv_iload_n hx hb dT_stepFits_17 rfl (lv_at hl 2 rfl) ?_
          refine lv_iload_n hx hb dT_stepFits_18 rfl (lv_at hl 3 rfl) ?_
          refine rd_call (va_runV (As := [.int (nI i), .int (nI le), .int (nI en)]) (rest := []) ⟨hx, hb, hml, hown, hta⟩ (c_T_otherFits l dC dI ad k T i le en (by first | omega | exact hw | exact hh) (by first | omega | exact hw | exact hh) (by first | omega | exact hw | exact hh) (by first | omega | exact hw | exact hh)) (cwV 3 hta (gV m_410 m_412 mp_32 m_2 m_413) rfl rfl rfl (by decide +kernel) ⟨Nat.le_of_ble_eq_true rfl, Nat.le_of_ble_eq_true rfl⟩) (rd_V xT_ok trivial hK hP (ci := 0) (q0 := 0) rfl rfl) rfl rfl hl.1 rfl (lv_room (Nat.le_of_ble_eq_true rfl)) dT_stepFits_19 ⟨Nat.zero_le _, Nat.zero_le _⟩) ?_
          refine W.eq (g2 := F0 m 22 ls [.int (bI (otM T i le en 0 (T.w + 1)))]) rfl ?_
          refine lb_ne (tgt := 27) hx hb dT_stepFits_22 (by decide) (fun h2 => ?_) (fun h2 => ?_)
          · refine lv_iinc (v := nI (i + 1)) (lv' := [(3, .int (nI (i + 1))), (0, .ref (ad 0)), (1, .int (nI le)), (2, .int (nI en))]) hx hb dT_stepFits_27 hl (k := 0) rfl (nI_add i 1) (by decide) rfl (fun ls hl => ?_)
            refine lv_goto (tgt := 2) hx hb dT_stepFits_30 (by decide) ?_
            exact ih (i + 1) ls (by omega) (by rw [← hq]; simp_all [sfM]) (lv_sub hl [0, 1, 2, 3] rfl)
          · refine lv_iconst (v := 0) hx hb dT_stepFits_25 (by decide) ?_
            exact W.zret (v := 0) hx hb hr (rfl) (fun t ht hW => ⟨congrArg (fun z => Outcome.returned (some (.int z))) (by rw [← hq]; simp [sfM, h1, h2, bI]), ht⟩) (fun q h => nomatch h) dT_stepFits_26
  exact loop2 (T.h + 1) 0 ls (by omega) rfl (lv_sub hl [0, 1, 2, 3] rfl)
end
section
def RA : String := "java/util/Arrays"
theorem dA_fill_0 : decode bA_fill 0 = .ok (.iconst 0, 1) := by decide +kernel
theorem dA_fill_1 : decode bA_fill 1 = .ok (.istore_n 3, 1) := by decide +kernel
theorem dA_fill_2 : decode bA_fill 2 = .ok (.aload_n 0, 1) := by decide +kernel
theorem dA_fill_3 : decode bA_fill 3 = .ok (.arraylength, 1) := by decide +kernel
theorem dA_fill_4 : decode bA_fill 4 = .ok (.istore 4, 2) := by decide +kernel
theorem dA_fill_6 : decode bA_fill 6 = .ok (.iload_n 3, 1) := by decide +kernel
theorem dA_fill_7 : decode bA_fill 7 = .ok (.iload 4, 2) := by decide +kernel
theorem dA_fill_9 : decode bA_fill 9 = .ok (.if_icmp .ge 13, 3) := by decide +kernel
theorem dA_fill_12 : decode bA_fill 12 = .ok (.aload_n 0, 1) := by decide +kernel
theorem dA_fill_13 : decode bA_fill 13 = .ok (.iload_n 3, 1) := by decide +kernel
theorem dA_fill_14 : decode bA_fill 14 = .ok (.lload_n 1, 1) := by decide +kernel
theorem dA_fill_15 : decode bA_fill 15 = .ok (.lastore, 1) := by decide +kernel
theorem dA_fill_16 : decode bA_fill 16 = .ok (.iinc 3 1, 3) := by decide +kernel
theorem dA_fill_19 : decode bA_fill 19 = .ok (.goto (-13), 3) := by decide +kernel
theorem dA_fill_22 : decode bA_fill 22 = .ok (.return_, 1) := by decide +kernel
set_option maxHeartbeats 4000000 in
set_option maxRecDepth 100000 in
theorem c_A_fill (l : Launch) (dC : Nat → ClassId) (dI : Nat → Nat → Nat) (aa : Nat) (ka : ClassId) (G : Nat → Int64) (sz : Nat) (v : Int64)  : Met l yA_fill wA_fill ({ frames := 0, cells := 0, slots := 0, locals := 0 }) (wPc [.ref aa, .long v] sz (dC, dI) vwCl ([(aa, .inl (ka, 13, .inr (.inl G)))]) ([(ka, .long)]) xT) (wQ none (dC, dI) vwCl ([(aa, .inl (ka, 13, .inr (.inl (fillL v 0 13 G))))]) (va_A ([(aa, .inl (ka, 13, .inr (.inl G)))]) sz)) 0 0 (va_A ([(aa, .inl (ka, 13, .inr (.inl G)))]) sz) := by
  refine Met.ofW (cc := bA_fill) (maxL := 5) (ret := none) (by decide) rfl ?_
  intro p e s m args below meth c s₁ B hml hv
  obtain ⟨rfl, hsz, hP, hK, hD0, hX⟩ := hv
  have hx := B.exec
  have hb := B.bytes
  have hr := B.returns
  have hts := atoms_spec (ws := wA_fill) B.pre
  have hta : ∀ w ∈ AW, w.before _ s = true := fun w h => hts w (List.mem_cons_of_mem _ h)
  have hown : s.vm.findClass RA = some m.cls := findClass_of_methodNamed B.named
  have hlocks := B.notSynchronized
  subst hsz
  have hD := hD0.self (sz := s.heap.size)
  generalize hAe : va_A ([(aa, .inl (ka, 13, .inr (.inl G)))]) s.heap.size = A at hD ⊢
  have hA : ∀ q : Nat, s.heap.size ≤ q → A q := fun q h => by rw [← hAe]; exact Or.inr h
  have hS : va_S A s.heap s.heap [] := va_S.rf
  have hl := lv_entry ([.ref aa, .long v]) (n := 5) (Nat.le_of_ble_eq_true rfl)
  rw [lg_entry_eq]
  generalize (lg_sl ([.ref aa, .long v]) ++ List.replicate (5 - (lg_sl ([.ref aa, .long v])).length) Slot.unset).toArray = ls at hl ⊢
  have hl : lv_has ls 5 [(0, .ref aa), (1, .long v)] := hl
  refine lv_iconst (v := nI 0) hx hb dA_fill_0 (by decide) ?_
  refine lv_istore_n (lv' := [(3, .int (nI 0)), (0, .ref aa), (1, .long v)]) hx hb dA_fill_1 rfl hl (by decide) rfl (fun ls hl => ?_)
  refine lv_aload_n hx hb dA_fill_2 rfl (lv_at hl 1 rfl) ?_
  refine va_alen hx hb hK hP 0 0 rfl rfl (v := nI 13) rfl dA_fill_3 ?_
  refine lv_istore (lv' := [(4, .int (nI 13)), (3, .int (nI 0)), (0, .ref aa), (1, .long v)]) hx hb dA_fill_4 hl (by decide) rfl (fun ls hl => ?_)
  have loop6 : ∀ (n : Nat) (i : Nat) (G2 : Nat → Int64) (H : Heap) (locs : List Loc) (ls : Array Slot), (i + n = 13) → (fillL v i n G2 = fillL v 0 13 G) → va_P (dC, dI) vwCl ([(aa, .inl (ka, 13, .inr (.inl G2)))]) H → va_D A ([(aa, .inl (ka, 13, .inr (.inl G2)))]) → va_S A s.heap H locs → lv_has ls 5 [(3, .int (nI i)), (4, .int (nI 13)), (0, .ref aa), (1, .long v)] → W p l e (headSpec wA_fill ({ frames := 0, cells := 0, slots := 0, locals := 0 })).room s m ([.ref aa, .long v] : List Value).toArray below meth c H locs 0 0 (MQ below (wQ none (dC, dI) vwCl ([(aa, .inl (ka, 13, .inr (.inl (fillL v 0 13 G))))]) A) ([.ref aa, .long v] : List Value).toArray s 0 0 A) (F0 m 6 ls []) := by
    intro n
    induction n with
    | zero =>
      intro i G2 H locs ls hn hq hP hD hS hl
      refine lv_iload_n hx hb dA_fill_6 rfl (lv_at hl 0 rfl) ?_
      refine lv_iload hx hb dA_fill_7 (lv_at hl 1 rfl) ?_
      refine ni_ge (tgt := 22) hx hb dA_fill_9 (by decide) (by omega) (by omega) (fun c_1 => ?_) (fun c_1 => ?_)
      · exact W.vret hx hb hr (fun t ht hW => ⟨rfl, by rw [ht]; exact (by rw [← hq]; exact hP), hS.F ht⟩) hS.2.2 dA_fill_22
      · exfalso; omega
    | succ n ih =>
      intro i G2 H locs ls hn hq hP hD hS hl
      refine lv_iload_n hx hb dA_fill_6 rfl (lv_at hl 0 rfl) ?_
      refine lv_iload hx hb dA_fill_7 (lv_at hl 1 rfl) ?_
      refine ni_ge (tgt := 22) hx hb dA_fill_9 (by decide) (by omega) (by omega) (fun c_2 => ?_) (fun c_2 => ?_)
      · exfalso; omega
      · refine lv_aload_n hx hb dA_fill_12 rfl (lv_at hl 2 rfl) ?_
        refine lv_iload_n hx hb dA_fill_13 rfl (lv_at hl 0 rfl) ?_
        refine lv_lload_n hx hb dA_fill_14 rfl (lv_at hl 3 rfl) ?_
        refine na_last hx hb hK hP hD hS 0 0 rfl rfl (i := i) (x := v) (by omega) (by decide) dA_fill_15 (fun H locs hP hD hS => ?_)
        have hP : va_P (dC, dI) vwCl ([(aa, .inl (ka, 13, .inr (.inl (vp_updL G2 i v))))]) H := hP
        have hD : va_D A ([(aa, .inl (ka, 13, .inr (.inl (vp_updL G2 i v))))]) := hD
        refine lv_iinc (v := nI (i + 1)) (lv' := [(3, .int (nI (i + 1))), (4, .int (nI 13)), (0, .ref aa), (1, .long v)]) hx hb dA_fill_16 hl (k := 0) rfl (nI_add i 1) (by decide) rfl (fun ls hl => ?_)
        refine lv_goto (tgt := 6) hx hb dA_fill_19 (by decide) ?_
        exact ih (i + 1) (vp_updL G2 i v) H locs ls (by omega) (by rw [← hq]; rfl) hP hD hS (lv_sub hl [0, 1, 2, 3] rfl)
  exact loop6 13 0 G s.heap [] ls (by omega) rfl hP hD hS (lv_sub hl [1, 0, 2, 3] rfl)

set_option maxHeartbeats 4000000 in
set_option maxRecDepth 100000 in
theorem c_T_setCell (l : Launch) (dC : Nat → ClassId) (dI : Nat → Nat → Nat) (ad : Nat → Nat) (k : Nat → ClassId) (T : TS) (sz : Nat) (i j : Nat) (v : Int64) (hi : i * 13 + j < 325) : Met l yT_setCell wT_setCell ({ frames := 0, cells := 0, slots := 0, locals := 0 }) (wPc [.ref (ad 0), .int (nI i), .int (nI j), .long v] sz (dC, dI) vwCl (TW ad k T) (TK k) xT) (wQ none (dC, dI) vwCl (TW ad k (ts (vp_updL T.C (i * 13 + j) v) T.I T.O T.G T.S T.w T.h T.d)) (va_A (TW ad k T) sz)) 0 0 (va_A (TW ad k T) sz) := by
  refine Met.ofW (cc := bT_setCell) (maxL := 5) (ret := none) (by decide) rfl ?_
  intro p e s m args below meth c s₁ B hml hv
  obtain ⟨rfl, hsz, hP, hK, hD0, hX⟩ := hv
  have hx := B.exec
  have hb := B.bytes
  have hr := B.returns
  have hts := atoms_spec (ws := wT_setCell) B.pre
  have hta : ∀ w ∈ AW, w.before _ s = true := fun w h => hts w (List.mem_cons_of_mem _ h)
  have hown : s.vm.findClass RT = some m.cls := findClass_of_methodNamed B.named
  have hlocks := B.notSynchronized
  subst hsz
  have hD := hD0.self (sz := s.heap.size)
  generalize hAe : va_A (TW ad k T) s.heap.size = A at hD ⊢
  have hA : ∀ q : Nat, s.heap.size ≤ q → A q := fun q h => by rw [← hAe]; exact Or.inr h
  have hS : va_S A s.heap s.heap [] := va_S.rf
  have hl := lv_entry ([.ref (ad 0), .int (nI i), .int (nI j), .long v]) (n := 5) (Nat.le_of_ble_eq_true rfl)
  rw [lg_entry_eq]
  generalize (lg_sl ([.ref (ad 0), .int (nI i), .int (nI j), .long v]) ++ List.replicate (5 - (lg_sl ([.ref (ad 0), .int (nI i), .int (nI j), .long v])).length) Slot.unset).toArray = ls at hl ⊢
  have hl : lv_has ls 5 [(0, .ref (ad 0)), (1, .int (nI i)), (2, .int (nI j)), (3, .long v)] := hl
  refine lv_aload_n hx hb dT_setCell_0 rfl (lv_at hl 0 rfl) ?_
  refine va_get (D := (dC, dI)) (ci := 0) (v := .ref (ad 1)) (C := RT) (T := FT) (N := 8) hx hb hta iT hown hK hP 0 rfl rfl 0 (by decide) (hta _ m_26) (fun _ h9 => h9) rfl dT_setCell_1 ?_
  refine lv_iload_n hx hb dT_setCell_4 rfl (lv_at hl 1 rfl) ?_
  refine lv_bipush (v := nI 13) hx hb dT_setCell_5 (by decide) ?_
  refine lv_imul hx hb dT_setCell_7 ?_
  refine st_i (y := nI (i * 13)) (pk_mul _ _) ?_
  refine lv_iload_n hx hb dT_setCell_8 rfl (lv_at hl 2 rfl) ?_
  refine lv_iadd hx hb dT_setCell_9 ?_
  refine st_i (y := nI ((i * 13) + j)) (nI_add _ _) ?_
  refine lv_lload_n hx hb dT_setCell_10 rfl (lv_at hl 3 rfl) ?_
  refine na_last hx hb hK hP hD hS 1 0 rfl rfl (i := ((i * 13) + j)) (x := v) (by omega) (by decide) dT_setCell_11 (fun H locs hP hD hS => ?_)
  have hP : va_P (dC, dI) vwCl (TW ad k (ts (vp_updL T.C ((i * 13) + j) v) T.I T.O T.G T.S T.w T.h T.d)) H := hP
  have hD : va_D A (TW ad k (ts (vp_updL T.C ((i * 13) + j) v) T.I T.O T.G T.S T.w T.h T.d)) := hD
  exact W.vret hx hb hr (fun t ht hW => ⟨rfl, by rw [ht]; exact hP, hS.F ht⟩) hS.2.2 dT_setCell_12

set_option maxHeartbeats 4000000 in
set_option maxRecDepth 100000 in
theorem c_T_addColumn (l : Launch) (dC : Nat → ClassId) (dI : Nat → Nat → Nat) (ad : Nat → Nat) (k : Nat → ClassId) (T : TS) (sz : Nat) (v : Int64) (hw : T.w < 12) : Met l yT_addColumn wT_addColumn ({ frames := 1, cells := 0, slots := 0, locals := 24 }) (wPc [.ref (ad 0), .long v] sz (dC, dI) vwCl (TW ad k T) (TK k) xT) (wQ (some (.int (nI T.w))) (dC, dI) vwCl (TW ad k (ts (vp_updL T.C (0 * 13 + (T.w + 1)) v) T.I (upd T.O (T.w + 1) (nI T.w)) T.G T.S (T.w + 1) T.h T.d)) (va_A (TW ad k T) sz)) 0 0 (va_A (TW ad k T) sz) := by
  refine Met.ofW (cc := bT_addColumn) (maxL := 4) (ret := (some .int)) (by decide) rfl ?_
  intro p e s m args below meth c s₁ B hml hv
  obtain ⟨rfl, hsz, hP, hK, hD0, hX⟩ := hv
  have hx := B.exec
  have hb := B.bytes
  have hr := B.returns
  have hts := atoms_spec (ws := wT_addColumn) B.pre
  have hta : ∀ w ∈ AW, w.before _ s = true := fun w h => hts w (List.mem_cons_of_mem _ h)
  have hown : s.vm.findClass RT = some m.cls := findClass_of_methodNamed B.named
  have hlocks := B.notSynchronized
  subst hsz
  have hD := hD0.self (sz := s.heap.size)
  generalize hAe : va_A (TW ad k T) s.heap.size = A at hD ⊢
  have hA : ∀ q : Nat, s.heap.size ≤ q → A q := fun q h => by rw [← hAe]; exact Or.inr h
  have hS : va_S A s.heap s.heap [] := va_S.rf
  have hl := lv_entry ([.ref (ad 0), .long v]) (n := 4) (Nat.le_of_ble_eq_true rfl)
  rw [lg_entry_eq]
  generalize (lg_sl ([.ref (ad 0), .long v]) ++ List.replicate (4 - (lg_sl ([.ref (ad 0), .long v])).length) Slot.unset).toArray = ls at hl ⊢
  have hl : lv_has ls 4 [(0, .ref (ad 0)), (1, .long v)] := hl
  refine lv_aload_n hx hb dT_addColumn_0 rfl (lv_at hl 0 rfl) ?_
  refine va_get (D := (dC, dI)) (ci := 0) (v := .int (nI T.w)) (C := RT) (T := FT) (N := 8) hx hb hta iT hown hK hP 0 rfl rfl 5 (by decide) (hta _ m_32) (fun _ h9 => h9) rfl dT_addColumn_1 ?_
  refine lv_istore_n (lv' := [(3, .int (nI T.w)), (0, .ref (ad 0)), (1, .long v)]) hx hb dT_addColumn_4 rfl hl (by decide) rfl (fun ls hl => ?_)
  refine lv_aload_n hx hb dT_addColumn_5 rfl (lv_at hl 1 rfl) ?_
  refine lv_dup hx hb dT_addColumn_6 rfl ?_
  refine va_get (D := (dC, dI)) (ci := 0) (v := .int (nI T.w)) (C := RT) (T := FT) (N := 8) hx hb hta iT hown hK hP 0 rfl rfl 5 (by decide) (hta _ m_32) (fun _ h9 => h9) rfl dT_addColumn_7 ?_
  refine lv_iconst (v := nI 1) hx hb dT_addColumn_10 (by decide) ?_
  refine lv_iadd hx hb dT_addColumn_11 ?_
  refine st_i (y := nI (T.w + 1)) (nI_add _ _) ?_
  refine va_put (D := (dC, dI)) (ci := 0) (v := .int (nI (T.w + 1))) (ty := .int) (C := RT) (T := FT) (N := 8) hx hb hta iT tT tT_ok nT hown hK hP hD hS 0 rfl rfl 5 (by decide) (hta _ m_32) (fun _ h9 => h9) rfl (by decide +kernel) rfl rfl (Nat.le_of_ble_eq_true rfl) dT_addColumn_12 (fun H locs hP hD hS => ?_)
  have hP : va_P (dC, dI) vwCl (TW ad k (ts T.C T.I T.O T.G T.S (T.w + 1) T.h T.d)) H := hP
  have hD : va_D A (TW ad k (ts T.C T.I T.O T.G T.S (T.w + 1) T.h T.d)) := hD
  refine lv_aload_n hx hb dT_addColumn_15 rfl (lv_at hl 1 rfl) ?_
  refine va_get (D := (dC, dI)) (ci := 0) (v := .ref (ad 3)) (C := RT) (T := FT) (N := 8) hx hb hta iT hown hK hP 0 rfl rfl 2 (by decide) (hta _ m_29) (fun _ h9 => h9) rfl dT_addColumn_16 ?_
  refine lv_aload_n hx hb dT_addColumn_19 rfl (lv_at hl 1 rfl) ?_
  refine va_get (D := (dC, dI)) (ci := 0) (v := .int (nI (T.w + 1))) (C := RT) (T := FT) (N := 8) hx hb hta iT hown hK hP 0 rfl rfl 5 (by decide) (hta _ m_32) (fun _ h9 => h9) rfl dT_addColumn_20 ?_
  refine lv_iload_n hx hb dT_addColumn_23 rfl (lv_at hl 0 rfl) ?_
  refine na_iast hx hb hK hP hD hS 3 2 rfl rfl (i := (T.w + 1)) (x := nI T.w) (by omega) (by decide) dT_addColumn_24 (fun H locs hP hD hS => ?_)
  have hP : va_P (dC, dI) vwCl (TW ad k (ts T.C T.I (upd T.O (T.w + 1) (nI T.w)) T.G T.S (T.w + 1) T.h T.d)) H := hP
  have hD : va_D A (TW ad k (ts T.C T.I (upd T.O (T.w + 1) (nI T.w)) T.G T.S (T.w + 1) T.h T.d)) := hD
  refine lv_aload_n hx hb dT_addColumn_25 rfl (lv_at hl 1 rfl) ?_
  refine lv_iconst (v := nI 0) hx hb dT_addColumn_26 (by decide) ?_
  refine lv_aload_n hx hb dT_addColumn_27 rfl (lv_at hl 1 rfl) ?_
  refine va_get (D := (dC, dI)) (ci := 0) (v := .int (nI (T.w + 1))) (C := RT) (T := FT) (N := 8) hx hb hta iT hown hK hP 0 rfl rfl 5 (by decide) (hta _ m_32) (fun _ h9 => h9) rfl dT_addColumn_28 ?_
  refine lv_lload_n hx hb dT_addColumn_31 rfl (lv_at hl 2 rfl) ?_
  refine wr_call (X := ([] : va_W)) (va_runV (As := [.int (nI 0), .int (nI (T.w + 1)), .long v]) (rest := []) ⟨hx, hb, hml, hown, hta⟩ (c_T_setCell l dC dI ad k (ts T.C T.I (upd T.O (T.w + 1) (nI T.w)) T.G T.S (T.w + 1) T.h T.d) H.size 0 (T.w + 1) v (by first | omega | exact hw | exact hh)) (cwV 3 hta (gV m_240 m_242 mp_8 m_2 m_243) rfl rfl rfl (by decide +kernel) ⟨Nat.le_of_ble_eq_true rfl, Nat.le_of_ble_eq_true rfl⟩) (wr_V xT_ok trivial hK hP hD (ci := 0) (q0 := 0) rfl rfl) rfl rfl hl.1 rfl (lv_room (Nat.le_of_ble_eq_true rfl)) dT_addColumn_32 ⟨Nat.zero_le _, Nat.zero_le _⟩) hP hD hS hA rfl (fun H locs hP hD hS => ?_)
  have hP : va_P (dC, dI) vwCl (TW ad k (ts (vp_updL T.C (0 * 13 + (T.w + 1)) v) T.I (upd T.O (T.w + 1) (nI T.w)) T.G T.S (T.w + 1) T.h T.d)) H := hP
  have hD : va_D A (TW ad k (ts (vp_updL T.C (0 * 13 + (T.w + 1)) v) T.I (upd T.O (T.w + 1) (nI T.w)) T.G T.S (T.w + 1) T.h T.d)) := hD
  refine W.eq (g2 := F0 m 35 ls []) rfl ?_
  refine lv_iload_n hx hb dT_addColumn_35 rfl (lv_at hl 0 rfl) ?_
  exact W.iret (v := nI T.w) hx hb hr (fun t ht hW => ⟨rfl, by rw [ht]; exact hP, hS.F ht⟩) hS.2.2 dT_addColumn_36

set_option maxHeartbeats 4000000 in
set_option maxRecDepth 100000 in
theorem c_T_tellColumn (l : Launch) (dC : Nat → ClassId) (dI : Nat → Nat → Nat) (ad : Nat → Nat) (k : Nat → ClassId) (T : TS) (sz : Nat) (v : Int32) (f : Int64) (hw : T.w ≤ 12) (hh : T.h ≤ 24) : Met l yT_tellColumn wT_tellColumn ({ frames := 1, cells := 0, slots := 0, locals := 22 }) (wPc [.ref (ad 0), .int v, .long f] sz (dC, dI) vwCl (TW ad k T) (TK k) xT) (wQ none (dC, dI) vwCl (TW ad k (ts T.C T.I T.O (tcM T v f T.G) T.S T.w T.h T.d)) (va_A (TW ad k T) sz)) 0 0 (va_A (TW ad k T) sz) := by
  refine Met.ofW (cc := bT_tellColumn) (maxL := 7) (ret := none) (by decide) rfl ?_
  intro p e s m args below meth c s₁ B hml hv
  obtain ⟨rfl, hsz, hP, hK, hD0, hX⟩ := hv
  have hx := B.exec
  have hb := B.bytes
  have hr := B.returns
  have hts := atoms_spec (ws := wT_tellColumn) B.pre
  have hta : ∀ w ∈ AW, w.before _ s = true := fun w h => hts w (List.mem_cons_of_mem _ h)
  have hown : s.vm.findClass RT = some m.cls := findClass_of_methodNamed B.named
  have hlocks := B.notSynchronized
  subst hsz
  have hD := hD0.self (sz := s.heap.size)
  generalize hAe : va_A (TW ad k T) s.heap.size = A at hD ⊢
  have hA : ∀ q : Nat, s.heap.size ≤ q → A q := fun q h => by rw [← hAe]; exact Or.inr h
  have hS : va_S A s.heap s.heap [] := va_S.rf
  have hl := lv_entry ([.ref (ad 0), .int v, .long f]) (n := 7) (Nat.le_of_ble_eq_true rfl)
  rw [lg_entry_eq]
  generalize (lg_sl ([.ref (ad 0), .int v, .long f]) ++ List.replicate (7 - (lg_sl ([.ref (ad 0), .int v, .long f])).length) Slot.unset).toArray = ls at hl ⊢
  have hl : lv_has ls 7 [(0, .ref (ad 0)), (1, .int v), (2, .long f)] := hl
  refine lv_aload_n hx hb dT_tellColumn_0 rfl (lv_at hl 0 rfl) ?_
  refine lv_iload_n hx hb dT_tellColumn_1 rfl (lv_at hl 1 rfl) ?_
  refine rd_call (va_runV (As := [.int v]) (rest := []) ⟨hx, hb, hml, hown, hta⟩ (c_T_placeOutside l dC dI ad k T v (by first | omega | exact hw | exact hh)) (cwV 1 hta (gV m_342 m_344 mp_19 m_2 m_345) rfl rfl rfl (by decide +kernel) ⟨Nat.le_of_ble_eq_true rfl, Nat.le_of_ble_eq_true rfl⟩) (rd_V xT_ok trivial hK hP (ci := 0) (q0 := 0) rfl rfl) rfl rfl hl.1 rfl (lv_room (Nat.le_of_ble_eq_true rfl)) dT_tellColumn_2 ⟨Nat.zero_le _, Nat.zero_le _⟩) ?_
  refine W.eq (g2 := F0 m 5 ls [.int (enc (fnd T.O v 1 T.w))]) rfl ?_
  refine lv_istore (lv' := [(4, .int (enc (fnd T.O v 1 T.w))), (0, .ref (ad 0)), (1, .int v), (2, .long f)]) hx hb dT_tellColumn_5 hl (by decide) rfl (fun ls hl => ?_)
  refine lv_iload hx hb dT_tellColumn_7 (lv_at hl 0 rfl) ?_
  refine lv_iconst (v := (-1)) hx hb dT_tellColumn_9 (by decide) ?_
  refine en_eq (o := (fnd T.O v 1 T.w)) (tgt := 30) hx hb dT_tellColumn_10 (by decide) (fun j h => by have := fnd_lt h; omega) (fun ho => ?_) (fun j_1 ho => ?_)
  · rw [ho] at hl
    have hl : lv_has ls 7 [(4, .int (-1)), (0, .ref (ad 0)), (1, .int v), (2, .long f)] := hl
    refine lv_aload_n hx hb dT_tellColumn_30 rfl (lv_at hl 1 rfl) ?_
    refine lv_iload_n hx hb dT_tellColumn_31 rfl (lv_at hl 2 rfl) ?_
    refine rd_call (va_runV (As := [.int v]) (rest := []) ⟨hx, hb, hml, hown, hta⟩ (c_T_placeInside l dC dI ad k T v (by first | omega | exact hw | exact hh)) (cwV 1 hta (gV m_119 m_121 mp_3 m_2 m_122) rfl rfl rfl (by decide +kernel) ⟨Nat.le_of_ble_eq_true rfl, Nat.le_of_ble_eq_true rfl⟩) (rd_V xT_ok trivial hK hP (ci := 0) (q0 := 0) rfl rfl) rfl rfl hl.1 rfl (lv_room (Nat.le_of_ble_eq_true rfl)) dT_tellColumn_32 ⟨Nat.zero_le _, Nat.zero_le _⟩) ?_
    refine W.eq (g2 := F0 m 35 ls [.int (enc (fnd T.I v 1 T.h))]) rfl ?_
    refine lv_istore (lv' := [(5, .int (enc (fnd T.I v 1 T.h))), (4, .int (-1)), (0, .ref (ad 0)), (1, .int v), (2, .long f)]) hx hb dT_tellColumn_35 hl (by decide) rfl (fun ls hl => ?_)
    refine lv_iconst (v := nI 0) hx hb dT_tellColumn_37 (by decide) ?_
    refine lv_istore (lv' := [(6, .int (nI 0)), (5, .int (enc (fnd T.I v 1 T.h))), (4, .int (-1)), (0, .ref (ad 0)), (1, .int v), (2, .long f)]) hx hb dT_tellColumn_38 hl (by decide) rfl (fun ls hl => ?_)
    rcases hi9 : fnd T.I v 1 T.h with _ | i
    · rw [hi9] at hl
      have hl : lv_has ls 7 [(6, .int (nI 0)), (5, .int (-1)), (4, .int (-1)), (0, .ref (ad 0)), (1, .int v), (2, .long f)] := hl
      refine lv_iload hx hb dT_tellColumn_40 (lv_at hl 1 rfl) ?_
      refine lv_iconst (v := (-1)) hx hb dT_tellColumn_42 (by decide) ?_
      refine lv_icmp_eq (tgt := 81) hx hb dT_tellColumn_43 (by decide) (fun hz => ?_) (fun hz => ?_)
      · exact W.vret hx hb hr (fun t ht hW => ⟨rfl, by rw [ht]; exact (by rw [show tcM T v f T.G = T.G by simp only [tcM, ho, hi9]]; exact hP), hS.F ht⟩) hS.2.2 dT_tellColumn_81
      · exact absurd rfl hz
    · rw [hi9] at hl
      have hl : lv_has ls 7 [(6, .int (nI 0)), (5, .int (nI i)), (4, .int (-1)), (0, .ref (ad 0)), (1, .int v), (2, .long f)] := hl
      have hi8 := fnd_lt hi9
      have loop40 : ∀ (n : Nat) (j : Nat) (G : Nat → Int64) (H : Heap) (locs : List Loc) (ls : Array Slot), (j + n = T.w + 1) → (tcL T.C i f j n G = tcL T.C i f 0 (T.w + 1) T.G) → va_P (dC, dI) vwCl (TW ad k (ts T.C T.I T.O G T.S T.w T.h T.d)) H → va_D A (TW ad k (ts T.C T.I T.O G T.S T.w T.h T.d)) → va_S A s.heap H locs → lv_has ls 7 [(6, .int (nI j)), (5, .int (nI i)), (4, .int (-1)), (0, .ref (ad 0)), (1, .int v), (2, .long f)] → W p l e (headSpec wT_tellColumn ({ frames := 1, cells := 0, slots := 0, locals := 22 })).room s m ([.ref (ad 0), .int v, .long f] : List Value).toArray below meth c H locs 0 0 (MQ below (wQ none (dC, dI) vwCl (TW ad k (ts T.C T.I T.O (tcM T v f T.G) T.S T.w T.h T.d)) A) ([.ref (ad 0), .int v, .long f] : List Value).toArray s 0 0 A) (F0 m 40 ls []) := by
        intro n
        induction n with
        | zero =>
          intro j G H locs ls hn hq hP hD hS hl
          refine lv_iload hx hb dT_tellColumn_40 (lv_at hl 1 rfl) ?_
          refine lv_iconst (v := (-1)) hx hb dT_tellColumn_42 (by decide) ?_
          refine lv_icmp_eq (tgt := 81) hx hb dT_tellColumn_43 (by decide) (fun hz => ?_) (fun hz => ?_)
          · exact absurd hz (enc_some (by omega))
          · refine lv_iload hx hb dT_tellColumn_46 (lv_at hl 0 rfl) ?_
            refine lv_aload_n hx hb dT_tellColumn_48 rfl (lv_at hl 3 rfl) ?_
            refine va_get (D := (dC, dI)) (ci := 0) (v := .int (nI T.w)) (C := RT) (T := FT) (N := 8) hx hb hta iT hown hK hP 0 rfl rfl 5 (by decide) (hta _ m_32) (fun _ h9 => h9) rfl dT_tellColumn_49 ?_
            refine ni_gt (tgt := 81) hx hb dT_tellColumn_52 (by decide) (by omega) (by omega) (fun c_2 => ?_) (fun c_2 => ?_)
            · exact W.vret hx hb hr (fun t ht hW => ⟨rfl, by rw [ht]; exact (by rw [show tcM T v f T.G = G by (simp only [tcM, ho, hi9]; exact hq.symm)]; exact hP), hS.F ht⟩) hS.2.2 dT_tellColumn_81
            · exfalso; omega
        | succ n ih =>
          intro j G H locs ls hn hq hP hD hS hl
          refine lv_iload hx hb dT_tellColumn_40 (lv_at hl 1 rfl) ?_
          refine lv_iconst (v := (-1)) hx hb dT_tellColumn_42 (by decide) ?_
          refine lv_icmp_eq (tgt := 81) hx hb dT_tellColumn_43 (by decide) (fun hz => ?_) (fun hz => ?_)
          · exact absurd hz (enc_some (by omega))
          · refine lv_iload hx hb dT_tellColumn_46 (lv_at hl 0 rfl) ?_
            refine lv_aload_n hx hb dT_tellColumn_48 rfl (lv_at hl 3 rfl) ?_
            refine va_get (D := (dC, dI)) (ci := 0) (v := .int (nI T.w)) (C := RT) (T := FT) (N := 8) hx hb hta iT hown hK hP 0 rfl rfl 5 (by decide) (hta _ m_32) (fun _ h9 => h9) rfl dT_tellColumn_49 ?_
            refine ni_gt (tgt := 81) hx hb dT_tellColumn_52 (by decide) (by omega) (by omega) (fun c_3 => ?_) (fun c_3 => ?_)
            · exfalso; omega
            · refine lv_aload_n hx hb dT_tellColumn_55 rfl (lv_at hl 3 rfl) ?_
              refine va_get (D := (dC, dI)) (ci := 0) (v := .ref (ad 4)) (C := RT) (T := FT) (N := 8) hx hb hta iT hown hK hP 0 rfl rfl 3 (by decide) (hta _ m_30) (fun _ h9 => h9) rfl dT_tellColumn_56 ?_
              refine lv_iload hx hb dT_tellColumn_59 (lv_at hl 0 rfl) ?_
              refine lv_dup2_11 hx hb dT_tellColumn_61 rfl rfl ?_
              refine na_lald hx hb hK hP 4 3 rfl rfl (i := j) (by omega) (by decide) dT_tellColumn_62 ?_
              refine lv_lload_n hx hb dT_tellColumn_63 rfl (lv_at hl 5 rfl) ?_
              refine lv_aload_n hx hb dT_tellColumn_64 rfl (lv_at hl 3 rfl) ?_
              refine lv_iload hx hb dT_tellColumn_65 (lv_at hl 1 rfl) ?_
              refine lv_iload hx hb dT_tellColumn_67 (lv_at hl 0 rfl) ?_
              refine rd_call (va_runV (As := [.int (nI i), .int (nI j)]) (rest := [.long f, .long (G j), .int (nI j), .ref (ad 4)]) ⟨hx, hb, hml, hown, hta⟩ (c_T_cell l dC dI ad k (ts T.C T.I T.O G T.S T.w T.h T.d) i j (by first | omega | exact hw | exact hh)) (cwV 2 hta (gV m_123 m_125 mp_4 m_2 m_126) rfl rfl rfl (by decide +kernel) ⟨Nat.le_of_ble_eq_true rfl, Nat.le_of_ble_eq_true rfl⟩) (rd_V xT_ok trivial hK hP (ci := 0) (q0 := 0) rfl rfl) rfl rfl hl.1 rfl (lv_room (Nat.le_of_ble_eq_true rfl)) dT_tellColumn_69 ⟨Nat.zero_le _, Nat.zero_le _⟩) ?_
              refine W.eq (g2 := F0 m 72 ls [.long (T.C (i * 13 + j)), .long f, .long (G j), .int (nI j), .ref (ad 4)]) rfl ?_
              refine lv_lmul hx hb dT_tellColumn_72 ?_
              refine lv_ladd hx hb dT_tellColumn_73 ?_
              refine na_last hx hb hK hP hD hS 4 3 rfl rfl (i := j) (x := (G j) + (f * (T.C (i * 13 + j)))) (by omega) (by decide) dT_tellColumn_74 (fun H locs hP hD hS => ?_)
              have hP : va_P (dC, dI) vwCl (TW ad k (ts T.C T.I T.O (vp_updL G j ((G j) + (f * (T.C (i * 13 + j))))) T.S T.w T.h T.d)) H := hP
              have hD : va_D A (TW ad k (ts T.C T.I T.O (vp_updL G j ((G j) + (f * (T.C (i * 13 + j))))) T.S T.w T.h T.d)) := hD
              refine lv_iinc (v := nI (j + 1)) (lv' := [(6, .int (nI (j + 1))), (5, .int (nI i)), (4, .int (-1)), (0, .ref (ad 0)), (1, .int v), (2, .long f)]) hx hb dT_tellColumn_75 hl (k := 0) rfl (nI_add j 1) (by decide) rfl (fun ls hl => ?_)
              refine lv_goto (tgt := 40) hx hb dT_tellColumn_78 (by decide) ?_
              exact ih (j + 1) (vp_updL G j ((G j) + (f * (T.C (i * 13 + j))))) H locs ls (by omega) (by rw [← hq]; rfl) hP hD hS (lv_sub hl [0, 1, 2, 3, 4, 5] rfl)
      exact loop40 (T.w + 1) 0 T.G s.heap [] ls (by omega) rfl hP hD hS (lv_sub hl [0, 1, 2, 3, 4, 5] rfl)
  · rw [ho] at hl
    have hl : lv_has ls 7 [(4, .int (nI j_1)), (0, .ref (ad 0)), (1, .int v), (2, .long f)] := hl
    have hj_1 := fnd_lt ho
    refine lv_aload_n hx hb dT_tellColumn_13 rfl (lv_at hl 1 rfl) ?_
    refine va_get (D := (dC, dI)) (ci := 0) (v := .ref (ad 4)) (C := RT) (T := FT) (N := 8) hx hb hta iT hown hK hP 0 rfl rfl 3 (by decide) (hta _ m_30) (fun _ h9 => h9) rfl dT_tellColumn_14 ?_
    refine lv_iload hx hb dT_tellColumn_17 (lv_at hl 0 rfl) ?_
    refine lv_dup2_11 hx hb dT_tellColumn_19 rfl rfl ?_
    refine na_lald hx hb hK hP 4 3 rfl rfl (i := j_1) (by omega) (by decide) dT_tellColumn_20 ?_
    refine lv_lload_n hx hb dT_tellColumn_21 rfl (lv_at hl 3 rfl) ?_
    refine lv_aload_n hx hb dT_tellColumn_22 rfl (lv_at hl 1 rfl) ?_
    refine va_get (D := (dC, dI)) (ci := 0) (v := .long T.d) (C := RT) (T := FT) (N := 8) hx hb hta iT hown hK hP 0 rfl rfl 7 (by decide) (hta _ m_36) (fun _ h9 => h9) rfl dT_tellColumn_23 ?_
    refine lv_lmul hx hb dT_tellColumn_26 ?_
    refine lv_ladd hx hb dT_tellColumn_27 ?_
    refine na_last hx hb hK hP hD hS 4 3 rfl rfl (i := j_1) (x := (T.G j_1) + (f * T.d)) (by omega) (by decide) dT_tellColumn_28 (fun H locs hP hD hS => ?_)
    have hP : va_P (dC, dI) vwCl (TW ad k (ts T.C T.I T.O (vp_updL T.G j_1 ((T.G j_1) + (f * T.d))) T.S T.w T.h T.d)) H := hP
    have hD : va_D A (TW ad k (ts T.C T.I T.O (vp_updL T.G j_1 ((T.G j_1) + (f * T.d))) T.S T.w T.h T.d)) := hD
    exact W.vret hx hb hr (fun t ht hW => ⟨rfl, by rw [ht]; exact (by simpa only [tcM, ho] using hP), hS.F ht⟩) hS.2.2 dT_tellColumn_29

set_option maxHeartbeats 4000000 in
set_option maxRecDepth 100000 in
theorem c_T_bringTold (l : Launch) (dC : Nat → ClassId) (dI : Nat → Nat → Nat) (ad : Nat → Nat) (k : Nat → ClassId) (T : TS) (sz : Nat) (sg : Int32) (hw : T.w ≤ 12) (hh : T.h ≤ 24) : Met l yT_bringTold wT_bringTold ({ frames := 1, cells := 0, slots := 0, locals := 24 }) (wPc [.ref (ad 0), .int sg] sz (dC, dI) vwCl (TW ad k T) (TK k) xT) (wQ none (dC, dI) vwCl (TW ad k (btM T sg)) (va_A (TW ad k T) sz)) 0 0 (va_A (TW ad k T) sz) := by
  refine Met.ofW (cc := bT_bringTold) (maxL := 4) (ret := none) (by decide) rfl ?_
  intro p e s m args below meth c s₁ B hml hv
  obtain ⟨rfl, hsz, hP, hK, hD0, hX⟩ := hv
  have hx := B.exec
  have hb := B.bytes
  have hr := B.returns
  have hts := atoms_spec (ws := wT_bringTold) B.pre
  have hta : ∀ w ∈ AW, w.before _ s = true := fun w h => hts w (List.mem_cons_of_mem _ h)
  have hown : s.vm.findClass RT = some m.cls := findClass_of_methodNamed B.named
  have hlocks := B.notSynchronized
  subst hsz
  have hD := hD0.self (sz := s.heap.size)
  generalize hAe : va_A (TW ad k T) s.heap.size = A at hD ⊢
  have hA : ∀ q : Nat, s.heap.size ≤ q → A q := fun q h => by rw [← hAe]; exact Or.inr h
  have hS : va_S A s.heap s.heap [] := va_S.rf
  have hl := lv_entry ([.ref (ad 0), .int sg]) (n := 4) (Nat.le_of_ble_eq_true rfl)
  rw [lg_entry_eq]
  generalize (lg_sl ([.ref (ad 0), .int sg]) ++ List.replicate (4 - (lg_sl ([.ref (ad 0), .int sg])).length) Slot.unset).toArray = ls at hl ⊢
  have hl : lv_has ls 4 [(0, .ref (ad 0)), (1, .int sg)] := hl
  refine lv_aload_n hx hb dT_bringTold_0 rfl (lv_at hl 0 rfl) ?_
  refine va_get (D := (dC, dI)) (ci := 0) (v := .int (nI T.h)) (C := RT) (T := FT) (N := 8) hx hb hta iT hown hK hP 0 rfl rfl 6 (by decide) (hta _ m_34) (fun _ h9 => h9) rfl dT_bringTold_1 ?_
  refine lv_bipush (v := nI 24) hx hb dT_bringTold_4 (by decide) ?_
  refine ni_lt (tgt := 10) hx hb dT_bringTold_6 (by decide) (by omega) (by omega) (fun h1 => ?_) (fun h1 => ?_)
  · refine lv_aload_n hx hb dT_bringTold_10 rfl (lv_at hl 0 rfl) ?_
    refine va_get (D := (dC, dI)) (ci := 0) (v := .int (nI T.w)) (C := RT) (T := FT) (N := 8) hx hb hta iT hown hK hP 0 rfl rfl 5 (by decide) (hta _ m_32) (fun _ h9 => h9) rfl dT_bringTold_11 ?_
    refine lv_aload_n hx hb dT_bringTold_14 rfl (lv_at hl 0 rfl) ?_
    refine va_get (D := (dC, dI)) (ci := 0) (v := .int (nI T.h)) (C := RT) (T := FT) (N := 8) hx hb hta iT hown hK hP 0 rfl rfl 6 (by decide) (hta _ m_34) (fun _ h9 => h9) rfl dT_bringTold_15 ?_
    refine lv_iadd hx hb dT_bringTold_18 ?_
    refine st_i (y := nI (T.w + T.h)) (nI_add _ _) ?_
    refine lv_istore_n (lv' := [(2, .int (nI (T.w + T.h))), (0, .ref (ad 0)), (1, .int sg)]) hx hb dT_bringTold_19 rfl hl (by decide) rfl (fun ls hl => ?_)
    refine lv_aload_n hx hb dT_bringTold_20 rfl (lv_at hl 1 rfl) ?_
    refine lv_dup hx hb dT_bringTold_21 rfl ?_
    refine va_get (D := (dC, dI)) (ci := 0) (v := .int (nI T.h)) (C := RT) (T := FT) (N := 8) hx hb hta iT hown hK hP 0 rfl rfl 6 (by decide) (hta _ m_34) (fun _ h9 => h9) rfl dT_bringTold_22 ?_
    refine lv_iconst (v := nI 1) hx hb dT_bringTold_25 (by decide) ?_
    refine lv_iadd hx hb dT_bringTold_26 ?_
    refine st_i (y := nI (T.h + 1)) (nI_add _ _) ?_
    refine va_put (D := (dC, dI)) (ci := 0) (v := .int (nI (T.h + 1))) (ty := .int) (C := RT) (T := FT) (N := 8) hx hb hta iT tT tT_ok nT hown hK hP hD hS 0 rfl rfl 6 (by decide) (hta _ m_34) (fun _ h9 => h9) rfl (by decide +kernel) rfl rfl (Nat.le_of_ble_eq_true rfl) dT_bringTold_27 (fun H locs hP hD hS => ?_)
    have hP : va_P (dC, dI) vwCl (TW ad k (ts T.C T.I T.O T.G T.S T.w (T.h + 1) T.d)) H := hP
    have hD : va_D A (TW ad k (ts T.C T.I T.O T.G T.S T.w (T.h + 1) T.d)) := hD
    refine lv_aload_n hx hb dT_bringTold_30 rfl (lv_at hl 1 rfl) ?_
    refine va_get (D := (dC, dI)) (ci := 0) (v := .ref (ad 2)) (C := RT) (T := FT) (N := 8) hx hb hta iT hown hK hP 0 rfl rfl 1 (by decide) (hta _ m_27) (fun _ h9 => h9) rfl dT_bringTold_31 ?_
    refine lv_aload_n hx hb dT_bringTold_34 rfl (lv_at hl 1 rfl) ?_
    refine va_get (D := (dC, dI)) (ci := 0) (v := .int (nI (T.h + 1))) (C := RT) (T := FT) (N := 8) hx hb hta iT hown hK hP 0 rfl rfl 6 (by decide) (hta _ m_34) (fun _ h9 => h9) rfl dT_bringTold_35 ?_
    refine lv_iload_n hx hb dT_bringTold_38 rfl (lv_at hl 0 rfl) ?_
    refine na_iast hx hb hK hP hD hS 2 1 rfl rfl (i := (T.h + 1)) (x := nI (T.w + T.h)) (by omega) (by decide) dT_bringTold_39 (fun H locs hP hD hS => ?_)
    have hP : va_P (dC, dI) vwCl (TW ad k (ts T.C (upd T.I (T.h + 1) (nI (T.w + T.h))) T.O T.G T.S T.w (T.h + 1) T.d)) H := hP
    have hD : va_D A (TW ad k (ts T.C (upd T.I (T.h + 1) (nI (T.w + T.h))) T.O T.G T.S T.w (T.h + 1) T.d)) := hD
    refine lv_iconst (v := nI 0) hx hb dT_bringTold_40 (by decide) ?_
    refine lv_istore_n (lv' := [(3, .int (nI 0)), (2, .int (nI (T.w + T.h))), (0, .ref (ad 0)), (1, .int sg)]) hx hb dT_bringTold_41 rfl hl (by decide) rfl (fun ls hl => ?_)
    have loop42 : ∀ (n : Nat) (j : Nat) (C : Nat → Int64) (H : Heap) (locs : List Loc) (ls : Array Slot), (j + n = T.w + 1) → (btL T.G (T.h + 1) sg.toInt64 j n C = btL T.G (T.h + 1) sg.toInt64 0 (T.w + 1) T.C) → va_P (dC, dI) vwCl (TW ad k (ts C (upd T.I (T.h + 1) (nI (T.w + T.h))) T.O T.G T.S T.w (T.h + 1) T.d)) H → va_D A (TW ad k (ts C (upd T.I (T.h + 1) (nI (T.w + T.h))) T.O T.G T.S T.w (T.h + 1) T.d)) → va_S A s.heap H locs → lv_has ls 4 [(3, .int (nI j)), (2, .int (nI (T.w + T.h))), (0, .ref (ad 0)), (1, .int sg)] → W p l e (headSpec wT_bringTold ({ frames := 1, cells := 0, slots := 0, locals := 24 })).room s m ([.ref (ad 0), .int sg] : List Value).toArray below meth c H locs 0 0 (MQ below (wQ none (dC, dI) vwCl (TW ad k (btM T sg)) A) ([.ref (ad 0), .int sg] : List Value).toArray s 0 0 A) (F0 m 42 ls []) := by
      intro n
      induction n with
      | zero =>
        intro j C H locs ls hn hq hP hD hS hl
        refine lv_iload_n hx hb dT_bringTold_42 rfl (lv_at hl 0 rfl) ?_
        refine lv_aload_n hx hb dT_bringTold_43 rfl (lv_at hl 2 rfl) ?_
        refine va_get (D := (dC, dI)) (ci := 0) (v := .int (nI T.w)) (C := RT) (T := FT) (N := 8) hx hb hta iT hown hK hP 0 rfl rfl 5 (by decide) (hta _ m_32) (fun _ h9 => h9) rfl dT_bringTold_44 ?_
        refine ni_gt (tgt := 74) hx hb dT_bringTold_47 (by decide) (by omega) (by omega) (fun c_1 => ?_) (fun c_1 => ?_)
        · exact W.vret hx hb hr (fun t ht hW => ⟨rfl, by rw [ht]; exact (by rw [show btM T sg = (ts C (upd T.I (T.h + 1) (nI (T.w + T.h))) T.O T.G T.S T.w (T.h + 1) T.d) by (rw [btM, if_neg (Nat.not_le.mpr h1), ← hq]; rfl)]; exact hP), hS.F ht⟩) hS.2.2 dT_bringTold_74
        · exfalso; omega
      | succ n ih =>
        intro j C H locs ls hn hq hP hD hS hl
        refine lv_iload_n hx hb dT_bringTold_42 rfl (lv_at hl 0 rfl) ?_
        refine lv_aload_n hx hb dT_bringTold_43 rfl (lv_at hl 2 rfl) ?_
        refine va_get (D := (dC, dI)) (ci := 0) (v := .int (nI T.w)) (C := RT) (T := FT) (N := 8) hx hb hta iT hown hK hP 0 rfl rfl 5 (by decide) (hta _ m_32) (fun _ h9 => h9) rfl dT_bringTold_44 ?_
        refine ni_gt (tgt := 74) hx hb dT_bringTold_47 (by decide) (by omega) (by omega) (fun c_2 => ?_) (fun c_2 => ?_)
        · exfalso; omega
        · refine lv_aload_n hx hb dT_bringTold_50 rfl (lv_at hl 2 rfl) ?_
          refine lv_aload_n hx hb dT_bringTold_51 rfl (lv_at hl 2 rfl) ?_
          refine va_get (D := (dC, dI)) (ci := 0) (v := .int (nI (T.h + 1))) (C := RT) (T := FT) (N := 8) hx hb hta iT hown hK hP 0 rfl rfl 6 (by decide) (hta _ m_34) (fun _ h9 => h9) rfl dT_bringTold_52 ?_
          refine lv_iload_n hx hb dT_bringTold_55 rfl (lv_at hl 0 rfl) ?_
          refine lv_iload_n hx hb dT_bringTold_56 rfl (lv_at hl 3 rfl) ?_
          refine lv_i2l (v := sg.toInt64) hx hb dT_bringTold_57 rfl ?_
          refine lv_aload_n hx hb dT_bringTold_58 rfl (lv_at hl 2 rfl) ?_
          refine va_get (D := (dC, dI)) (ci := 0) (v := .ref (ad 4)) (C := RT) (T := FT) (N := 8) hx hb hta iT hown hK hP 0 rfl rfl 3 (by decide) (hta _ m_30) (fun _ h9 => h9) rfl dT_bringTold_59 ?_
          refine lv_iload_n hx hb dT_bringTold_62 rfl (lv_at hl 0 rfl) ?_
          refine na_lald hx hb hK hP 4 3 rfl rfl (i := j) (by omega) (by decide) dT_bringTold_63 ?_
          refine lv_lmul hx hb dT_bringTold_64 ?_
          refine wr_call (X := ([] : va_W)) (va_runV (As := [.int (nI (T.h + 1)), .int (nI j), .long (sg.toInt64 * (T.G j))]) (rest := []) ⟨hx, hb, hml, hown, hta⟩ (c_T_setCell l dC dI ad k (ts C (upd T.I (T.h + 1) (nI (T.w + T.h))) T.O T.G T.S T.w (T.h + 1) T.d) H.size (T.h + 1) j (sg.toInt64 * (T.G j)) (by first | omega | exact hw | exact hh)) (cwV 3 hta (gV m_240 m_242 mp_8 m_2 m_243) rfl rfl rfl (by decide +kernel) ⟨Nat.le_of_ble_eq_true rfl, Nat.le_of_ble_eq_true rfl⟩) (wr_V xT_ok trivial hK hP hD (ci := 0) (q0 := 0) rfl rfl) rfl rfl hl.1 rfl (lv_room (Nat.le_of_ble_eq_true rfl)) dT_bringTold_65 ⟨Nat.zero_le _, Nat.zero_le _⟩) hP hD hS hA rfl (fun H locs hP hD hS => ?_)
          have hP : va_P (dC, dI) vwCl (TW ad k (ts (vp_updL C ((T.h + 1) * 13 + j) (sg.toInt64 * (T.G j))) (upd T.I (T.h + 1) (nI (T.w + T.h))) T.O T.G T.S T.w (T.h + 1) T.d)) H := hP
          have hD : va_D A (TW ad k (ts (vp_updL C ((T.h + 1) * 13 + j) (sg.toInt64 * (T.G j))) (upd T.I (T.h + 1) (nI (T.w + T.h))) T.O T.G T.S T.w (T.h + 1) T.d)) := hD
          refine W.eq (g2 := F0 m 68 ls []) rfl ?_
          refine lv_iinc (v := nI (j + 1)) (lv' := [(3, .int (nI (j + 1))), (2, .int (nI (T.w + T.h))), (0, .ref (ad 0)), (1, .int sg)]) hx hb dT_bringTold_68 hl (k := 0) rfl (nI_add j 1) (by decide) rfl (fun ls hl => ?_)
          refine lv_goto (tgt := 42) hx hb dT_bringTold_71 (by decide) ?_
          exact ih (j + 1) (vp_updL C ((T.h + 1) * 13 + j) (sg.toInt64 * (T.G j))) H locs ls (by omega) (by rw [← hq]; rfl) hP hD hS (lv_sub hl [0, 1, 2, 3] rfl)
    exact loop42 (T.w + 1) 0 T.C H locs ls (by omega) rfl hP hD hS (lv_sub hl [0, 1, 2, 3] rfl)
  · exact W.vret hx hb hr (fun t ht hW => ⟨rfl, by rw [ht]; exact (by simpa only [btM, if_pos h1] using hP), hS.F ht⟩) hS.2.2 dT_bringTold_9

set_option maxHeartbeats 4000000 in
set_option maxRecDepth 100000 in
theorem c_T_changeEntered (l : Launch) (dC : Nat → ClassId) (dI : Nat → Nat → Nat) (ad : Nat → Nat) (k : Nat → ClassId) (T : TS) (sz : Nat) (le en : Nat) (hw : T.w ≤ 12) (hle : le < 25) (hen : en < 13) : Met l yT_changeEntered wT_changeEntered ({ frames := 1, cells := 0, slots := 0, locals := 24 }) (wPc [.ref (ad 0), .int (nI le), .int (nI en)] sz (dC, dI) vwCl (TW ad k T) (TK k) xT) (wQ none (dC, dI) vwCl (TW ad k (ts (ceL T.d le en 0 (T.w + 1) T.C) T.I T.O T.G T.S T.w T.h T.d)) (va_A (TW ad k T) sz)) 0 0 (va_A (TW ad k T) sz) := by
  refine Met.ofW (cc := bT_changeEntered) (maxL := 4) (ret := none) (by decide) rfl ?_
  intro p e s m args below meth c s₁ B hml hv
  obtain ⟨rfl, hsz, hP, hK, hD0, hX⟩ := hv
  have hx := B.exec
  have hb := B.bytes
  have hr := B.returns
  have hts := atoms_spec (ws := wT_changeEntered) B.pre
  have hta : ∀ w ∈ AW, w.before _ s = true := fun w h => hts w (List.mem_cons_of_mem _ h)
  have hown : s.vm.findClass RT = some m.cls := findClass_of_methodNamed B.named
  have hlocks := B.notSynchronized
  subst hsz
  have hD := hD0.self (sz := s.heap.size)
  generalize hAe : va_A (TW ad k T) s.heap.size = A at hD ⊢
  have hA : ∀ q : Nat, s.heap.size ≤ q → A q := fun q h => by rw [← hAe]; exact Or.inr h
  have hS : va_S A s.heap s.heap [] := va_S.rf
  have hl := lv_entry ([.ref (ad 0), .int (nI le), .int (nI en)]) (n := 4) (Nat.le_of_ble_eq_true rfl)
  rw [lg_entry_eq]
  generalize (lg_sl ([.ref (ad 0), .int (nI le), .int (nI en)]) ++ List.replicate (4 - (lg_sl ([.ref (ad 0), .int (nI le), .int (nI en)])).length) Slot.unset).toArray = ls at hl ⊢
  have hl : lv_has ls 4 [(0, .ref (ad 0)), (1, .int (nI le)), (2, .int (nI en))] := hl
  refine lv_iconst (v := nI 0) hx hb dT_changeEntered_0 (by decide) ?_
  refine lv_istore_n (lv' := [(3, .int (nI 0)), (0, .ref (ad 0)), (1, .int (nI le)), (2, .int (nI en))]) hx hb dT_changeEntered_1 rfl hl (by decide) rfl (fun ls hl => ?_)
  have loop2 : ∀ (n : Nat) (j : Nat) (C : Nat → Int64) (H : Heap) (locs : List Loc) (ls : Array Slot), (j + n = T.w + 1) → (ceL T.d le en j n C = ceL T.d le en 0 (T.w + 1) T.C) → va_P (dC, dI) vwCl (TW ad k (ts C T.I T.O T.G T.S T.w T.h T.d)) H → va_D A (TW ad k (ts C T.I T.O T.G T.S T.w T.h T.d)) → va_S A s.heap H locs → lv_has ls 4 [(3, .int (nI j)), (0, .ref (ad 0)), (1, .int (nI le)), (2, .int (nI en))] → W p l e (headSpec wT_changeEntered ({ frames := 1, cells := 0, slots := 0, locals := 24 })).room s m ([.ref (ad 0), .int (nI le), .int (nI en)] : List Value).toArray below meth c H locs 0 0 (MQ below (wQ none (dC, dI) vwCl (TW ad k (ts (ceL T.d le en 0 (T.w + 1) T.C) T.I T.O T.G T.S T.w T.h T.d)) A) ([.ref (ad 0), .int (nI le), .int (nI en)] : List Value).toArray s 0 0 A) (F0 m 2 ls []) := by
    intro n
    induction n with
    | zero =>
      intro j C H locs ls hn hq hP hD hS hl
      refine lv_iload_n hx hb dT_changeEntered_2 rfl (lv_at hl 0 rfl) ?_
      refine lv_aload_n hx hb dT_changeEntered_3 rfl (lv_at hl 1 rfl) ?_
      refine va_get (D := (dC, dI)) (ci := 0) (v := .int (nI T.w)) (C := RT) (T := FT) (N := 8) hx hb hta iT hown hK hP 0 rfl rfl 5 (by decide) (hta _ m_32) (fun _ h9 => h9) rfl dT_changeEntered_4 ?_
      refine ni_gt (tgt := 41) hx hb dT_changeEntered_7 (by decide) (by omega) (by omega) (fun c_1 => ?_) (fun c_1 => ?_)
      · exact W.vret hx hb hr (fun t ht hW => ⟨rfl, by rw [ht]; exact (by rw [← hq]; exact hP), hS.F ht⟩) hS.2.2 dT_changeEntered_41
      · exfalso; omega
    | succ n ih =>
      intro j C H locs ls hn hq hP hD hS hl
      refine lv_iload_n hx hb dT_changeEntered_2 rfl (lv_at hl 0 rfl) ?_
      refine lv_aload_n hx hb dT_changeEntered_3 rfl (lv_at hl 1 rfl) ?_
      refine va_get (D := (dC, dI)) (ci := 0) (v := .int (nI T.w)) (C := RT) (T := FT) (N := 8) hx hb hta iT hown hK hP 0 rfl rfl 5 (by decide) (hta _ m_32) (fun _ h9 => h9) rfl dT_changeEntered_4 ?_
      refine ni_gt (tgt := 41) hx hb dT_changeEntered_7 (by decide) (by omega) (by omega) (fun c_2 => ?_) (fun c_2 => ?_)
      · exfalso; omega
      · refine lv_aload_n hx hb dT_changeEntered_10 rfl (lv_at hl 1 rfl) ?_
        refine lv_iload_n hx hb dT_changeEntered_11 rfl (lv_at hl 2 rfl) ?_
        refine lv_iload_n hx hb dT_changeEntered_12 rfl (lv_at hl 0 rfl) ?_
        refine lv_iload_n hx hb dT_changeEntered_13 rfl (lv_at hl 0 rfl) ?_
        refine lv_iload_n hx hb dT_changeEntered_14 rfl (lv_at hl 3 rfl) ?_
        refine ni_ne (tgt := 25) hx hb dT_changeEntered_15 (by decide) (by omega) (by omega) (fun h1 => ?_) (fun h1 => ?_)
        · refine lv_aload_n hx hb dT_changeEntered_25 rfl (lv_at hl 1 rfl) ?_
          refine lv_iload_n hx hb dT_changeEntered_26 rfl (lv_at hl 2 rfl) ?_
          refine lv_iload_n hx hb dT_changeEntered_27 rfl (lv_at hl 0 rfl) ?_
          refine rd_call (va_runV (As := [.int (nI le), .int (nI j)]) (rest := [.int (nI j), .int (nI le), .ref (ad 0)]) ⟨hx, hb, hml, hown, hta⟩ (c_T_cell l dC dI ad k (ts C T.I T.O T.G T.S T.w T.h T.d) le j (by first | omega | exact hw | exact hh)) (cwV 2 hta (gV m_123 m_125 mp_4 m_2 m_126) rfl rfl rfl (by decide +kernel) ⟨Nat.le_of_ble_eq_true rfl, Nat.le_of_ble_eq_true rfl⟩) (rd_V xT_ok trivial hK hP (ci := 0) (q0 := 0) rfl rfl) rfl rfl hl.1 rfl (lv_room (Nat.le_of_ble_eq_true rfl)) dT_changeEntered_28 ⟨Nat.zero_le _, Nat.zero_le _⟩) ?_
          refine W.eq (g2 := F0 m 31 ls [.long (C (le * 13 + j)), .int (nI j), .int (nI le), .ref (ad 0)]) rfl ?_
          refine lv_lneg hx hb dT_changeEntered_31 ?_
          refine wr_call (X := ([] : va_W)) (va_runV (As := [.int (nI le), .int (nI j), .long (-(C (le * 13 + j)))]) (rest := []) ⟨hx, hb, hml, hown, hta⟩ (c_T_setCell l dC dI ad k (ts C T.I T.O T.G T.S T.w T.h T.d) H.size le j (-(C (le * 13 + j))) (by first | omega | exact hw | exact hh)) (cwV 3 hta (gV m_240 m_242 mp_8 m_2 m_243) rfl rfl rfl (by decide +kernel) ⟨Nat.le_of_ble_eq_true rfl, Nat.le_of_ble_eq_true rfl⟩) (wr_V xT_ok trivial hK hP hD (ci := 0) (q0 := 0) rfl rfl) rfl rfl hl.1 rfl (lv_room (Nat.le_of_ble_eq_true rfl)) dT_changeEntered_32 ⟨Nat.zero_le _, Nat.zero_le _⟩) hP hD hS hA rfl (fun H locs hP hD hS => ?_)
          have hP : va_P (dC, dI) vwCl (TW ad k (ts (vp_updL C (le * 13 + j) (-(C (le * 13 + j)))) T.I T.O T.G T.S T.w T.h T.d)) H := hP
          have hD : va_D A (TW ad k (ts (vp_updL C (le * 13 + j) (-(C (le * 13 + j)))) T.I T.O T.G T.S T.w T.h T.d)) := hD
          refine W.eq (g2 := F0 m 35 ls []) rfl ?_
          refine lv_iinc (v := nI (j + 1)) (lv' := [(3, .int (nI (j + 1))), (0, .ref (ad 0)), (1, .int (nI le)), (2, .int (nI en))]) hx hb dT_changeEntered_35 hl (k := 0) rfl (nI_add j 1) (by decide) rfl (fun ls hl => ?_)
          refine lv_goto (tgt := 2) hx hb dT_changeEntered_38 (by decide) ?_
          exact ih (j + 1) (vp_updL C (le * 13 + j) (-(C (le * 13 + j)))) H locs ls (by omega) (by rw [← hq]; simp [ceL, h1]) hP hD hS (lv_sub hl [0, 1, 2, 3] rfl)
        · refine lv_aload_n hx hb dT_changeEntered_18 rfl (lv_at hl 1 rfl) ?_
          refine va_get (D := (dC, dI)) (ci := 0) (v := .long T.d) (C := RT) (T := FT) (N := 8) hx hb hta iT hown hK hP 0 rfl rfl 7 (by decide) (hta _ m_36) (fun _ h9 => h9) rfl dT_changeEntered_19 ?_
          refine lv_goto (tgt := 32) hx hb dT_changeEntered_22 (by decide) ?_
          refine wr_call (X := ([] : va_W)) (va_runV (As := [.int (nI le), .int (nI j), .long T.d]) (rest := []) ⟨hx, hb, hml, hown, hta⟩ (c_T_setCell l dC dI ad k (ts C T.I T.O T.G T.S T.w T.h T.d) H.size le j T.d (by first | omega | exact hw | exact hh)) (cwV 3 hta (gV m_240 m_242 mp_8 m_2 m_243) rfl rfl rfl (by decide +kernel) ⟨Nat.le_of_ble_eq_true rfl, Nat.le_of_ble_eq_true rfl⟩) (wr_V xT_ok trivial hK hP hD (ci := 0) (q0 := 0) rfl rfl) rfl rfl hl.1 rfl (lv_room (Nat.le_of_ble_eq_true rfl)) dT_changeEntered_32 ⟨Nat.zero_le _, Nat.zero_le _⟩) hP hD hS hA rfl (fun H locs hP hD hS => ?_)
          have hP : va_P (dC, dI) vwCl (TW ad k (ts (vp_updL C (le * 13 + j) T.d) T.I T.O T.G T.S T.w T.h T.d)) H := hP
          have hD : va_D A (TW ad k (ts (vp_updL C (le * 13 + j) T.d) T.I T.O T.G T.S T.w T.h T.d)) := hD
          refine W.eq (g2 := F0 m 35 ls []) rfl ?_
          refine lv_iinc (v := nI (j + 1)) (lv' := [(3, .int (nI (j + 1))), (0, .ref (ad 0)), (1, .int (nI le)), (2, .int (nI en))]) hx hb dT_changeEntered_35 hl (k := 0) rfl (nI_add j 1) (by decide) rfl (fun ls hl => ?_)
          refine lv_goto (tgt := 2) hx hb dT_changeEntered_38 (by decide) ?_
          exact ih (j + 1) (vp_updL C (le * 13 + j) T.d) H locs ls (by omega) (by rw [← hq]; simp [ceL, h1]) hP hD hS (lv_sub hl [0, 1, 2, 3] rfl)
  exact loop2 (T.w + 1) 0 T.C s.heap [] ls (by omega) rfl hP hD hS (lv_sub hl [0, 1, 2, 3] rfl)

set_option maxHeartbeats 4000000 in
set_option maxRecDepth 100000 in
theorem c_T_changeOther (l : Launch) (dC : Nat → ClassId) (dI : Nat → Nat → Nat) (ad : Nat → Nat) (k : Nat → ClassId) (T : TS) (sz : Nat) (i le en : Nat) (hw : T.w ≤ 12) (hi : i < 25) (hle : le < 25) (hen : en < 13) : Met l yT_changeOther wT_changeOther ({ frames := 1, cells := 0, slots := 0, locals := 36 }) (wPc [.ref (ad 0), .int (nI i), .int (nI le), .int (nI en)] sz (dC, dI) vwCl (TW ad k T) (TK k) xT) (wQ none (dC, dI) vwCl (TW ad k (ts (coM T.d T.w i le en T.C) T.I T.O T.G T.S T.w T.h T.d)) (va_A (TW ad k T) sz)) 0 0 (va_A (TW ad k T) sz) := by
  refine Met.ofW (cc := bT_changeOther) (maxL := 9) (ret := none) (by decide) rfl ?_
  intro p e s m args below meth c s₁ B hml hv
  obtain ⟨rfl, hsz, hP, hK, hD0, hX⟩ := hv
  have hx := B.exec
  have hb := B.bytes
  have hr := B.returns
  have hts := atoms_spec (ws := wT_changeOther) B.pre
  have hta : ∀ w ∈ AW, w.before _ s = true := fun w h => hts w (List.mem_cons_of_mem _ h)
  have hown : s.vm.findClass RT = some m.cls := findClass_of_methodNamed B.named
  have hlocks := B.notSynchronized
  subst hsz
  have hD := hD0.self (sz := s.heap.size)
  generalize hAe : va_A (TW ad k T) s.heap.size = A at hD ⊢
  have hA : ∀ q : Nat, s.heap.size ≤ q → A q := fun q h => by rw [← hAe]; exact Or.inr h
  have hS : va_S A s.heap s.heap [] := va_S.rf
  have hl := lv_entry ([.ref (ad 0), .int (nI i), .int (nI le), .int (nI en)]) (n := 9) (Nat.le_of_ble_eq_true rfl)
  rw [lg_entry_eq]
  generalize (lg_sl ([.ref (ad 0), .int (nI i), .int (nI le), .int (nI en)]) ++ List.replicate (9 - (lg_sl ([.ref (ad 0), .int (nI i), .int (nI le), .int (nI en)])).length) Slot.unset).toArray = ls at hl ⊢
  have hl : lv_has ls 9 [(0, .ref (ad 0)), (1, .int (nI i)), (2, .int (nI le)), (3, .int (nI en))] := hl
  refine lv_aload_n hx hb dT_changeOther_0 rfl (lv_at hl 0 rfl) ?_
  refine lv_iload_n hx hb dT_changeOther_1 rfl (lv_at hl 2 rfl) ?_
  refine lv_iload_n hx hb dT_changeOther_2 rfl (lv_at hl 3 rfl) ?_
  refine rd_call (va_runV (As := [.int (nI le), .int (nI en)]) (rest := []) ⟨hx, hb, hml, hown, hta⟩ (c_T_cell l dC dI ad k T le en (by first | omega | exact hw | exact hh)) (cwV 2 hta (gV m_123 m_125 mp_4 m_2 m_126) rfl rfl rfl (by decide +kernel) ⟨Nat.le_of_ble_eq_true rfl, Nat.le_of_ble_eq_true rfl⟩) (rd_V xT_ok trivial hK hP (ci := 0) (q0 := 0) rfl rfl) rfl rfl hl.1 rfl (lv_room (Nat.le_of_ble_eq_true rfl)) dT_changeOther_3 ⟨Nat.zero_le _, Nat.zero_le _⟩) ?_
  refine W.eq (g2 := F0 m 6 ls [.long (T.C (le * 13 + en))]) rfl ?_
  refine lv_lstore (lv' := [(4, .long (T.C (le * 13 + en))), (0, .ref (ad 0)), (1, .int (nI i)), (2, .int (nI le)), (3, .int (nI en))]) hx hb dT_changeOther_6 hl (by decide) rfl (fun ls hl => ?_)
  refine lv_aload_n hx hb dT_changeOther_8 rfl (lv_at hl 1 rfl) ?_
  refine lv_iload_n hx hb dT_changeOther_9 rfl (lv_at hl 2 rfl) ?_
  refine lv_iload_n hx hb dT_changeOther_10 rfl (lv_at hl 4 rfl) ?_
  refine rd_call (va_runV (As := [.int (nI i), .int (nI en)]) (rest := []) ⟨hx, hb, hml, hown, hta⟩ (c_T_cell l dC dI ad k T i en (by first | omega | exact hw | exact hh)) (cwV 2 hta (gV m_123 m_125 mp_4 m_2 m_126) rfl rfl rfl (by decide +kernel) ⟨Nat.le_of_ble_eq_true rfl, Nat.le_of_ble_eq_true rfl⟩) (rd_V xT_ok trivial hK hP (ci := 0) (q0 := 0) rfl rfl) rfl rfl hl.1 rfl (lv_room (Nat.le_of_ble_eq_true rfl)) dT_changeOther_11 ⟨Nat.zero_le _, Nat.zero_le _⟩) ?_
  refine W.eq (g2 := F0 m 14 ls [.long (T.C (i * 13 + en))]) rfl ?_
  refine lv_lstore (lv' := [(6, .long (T.C (i * 13 + en))), (4, .long (T.C (le * 13 + en))), (0, .ref (ad 0)), (1, .int (nI i)), (2, .int (nI le)), (3, .int (nI en))]) hx hb dT_changeOther_14 hl (by decide) rfl (fun ls hl => ?_)
  refine lv_iconst (v := nI 0) hx hb dT_changeOther_16 (by decide) ?_
  refine lv_istore (lv' := [(8, .int (nI 0)), (6, .long (T.C (i * 13 + en))), (4, .long (T.C (le * 13 + en))), (0, .ref (ad 0)), (1, .int (nI i)), (2, .int (nI le)), (3, .int (nI en))]) hx hb dT_changeOther_17 hl (by decide) rfl (fun ls hl => ?_)
  have loop19 : ∀ (n : Nat) (j : Nat) (C : Nat → Int64) (H : Heap) (locs : List Loc) (ls : Array Slot), (j + n = T.w + 1) → (coL T.d i le en (T.C (le * 13 + en)) (T.C (i * 13 + en)) j n C = coM T.d T.w i le en T.C) → va_P (dC, dI) vwCl (TW ad k (ts C T.I T.O T.G T.S T.w T.h T.d)) H → va_D A (TW ad k (ts C T.I T.O T.G T.S T.w T.h T.d)) → va_S A s.heap H locs → lv_has ls 9 [(8, .int (nI j)), (6, .long (T.C (i * 13 + en))), (4, .long (T.C (le * 13 + en))), (0, .ref (ad 0)), (1, .int (nI i)), (2, .int (nI le)), (3, .int (nI en))] → W p l e (headSpec wT_changeOther ({ frames := 1, cells := 0, slots := 0, locals := 36 })).room s m ([.ref (ad 0), .int (nI i), .int (nI le), .int (nI en)] : List Value).toArray below meth c H locs 0 0 (MQ below (wQ none (dC, dI) vwCl (TW ad k (ts (coM T.d T.w i le en T.C) T.I T.O T.G T.S T.w T.h T.d)) A) ([.ref (ad 0), .int (nI i), .int (nI le), .int (nI en)] : List Value).toArray s 0 0 A) (F0 m 19 ls []) := by
    intro n
    induction n with
    | zero =>
      intro j C H locs ls hn hq hP hD hS hl
      refine lv_iload hx hb dT_changeOther_19 (lv_at hl 0 rfl) ?_
      refine lv_aload_n hx hb dT_changeOther_21 rfl (lv_at hl 3 rfl) ?_
      refine va_get (D := (dC, dI)) (ci := 0) (v := .int (nI T.w)) (C := RT) (T := FT) (N := 8) hx hb hta iT hown hK hP 0 rfl rfl 5 (by decide) (hta _ m_32) (fun _ h9 => h9) rfl dT_changeOther_22 ?_
      refine ni_gt (tgt := 69) hx hb dT_changeOther_25 (by decide) (by omega) (by omega) (fun c_1 => ?_) (fun c_1 => ?_)
      · exact W.vret hx hb hr (fun t ht hW => ⟨rfl, by rw [ht]; exact (by rw [← hq]; exact hP), hS.F ht⟩) hS.2.2 dT_changeOther_69
      · exfalso; omega
    | succ n ih =>
      intro j C H locs ls hn hq hP hD hS hl
      refine lv_iload hx hb dT_changeOther_19 (lv_at hl 0 rfl) ?_
      refine lv_aload_n hx hb dT_changeOther_21 rfl (lv_at hl 3 rfl) ?_
      refine va_get (D := (dC, dI)) (ci := 0) (v := .int (nI T.w)) (C := RT) (T := FT) (N := 8) hx hb hta iT hown hK hP 0 rfl rfl 5 (by decide) (hta _ m_32) (fun _ h9 => h9) rfl dT_changeOther_22 ?_
      refine ni_gt (tgt := 69) hx hb dT_changeOther_25 (by decide) (by omega) (by omega) (fun c_2 => ?_) (fun c_2 => ?_)
      · exfalso; omega
      · refine lv_iload hx hb dT_changeOther_28 (lv_at hl 0 rfl) ?_
        refine lv_iload_n hx hb dT_changeOther_30 rfl (lv_at hl 6 rfl) ?_
        refine ni_eq (tgt := 63) hx hb dT_changeOther_31 (by decide) (by omega) (by omega) (fun h1 => ?_) (fun h1 => ?_)
        · refine lv_iinc (v := nI (j + 1)) (lv' := [(8, .int (nI (j + 1))), (6, .long (T.C (i * 13 + en))), (4, .long (T.C (le * 13 + en))), (0, .ref (ad 0)), (1, .int (nI i)), (2, .int (nI le)), (3, .int (nI en))]) hx hb dT_changeOther_63 hl (k := 0) rfl (nI_add j 1) (by decide) rfl (fun ls hl => ?_)
          refine lv_goto (tgt := 19) hx hb dT_changeOther_66 (by decide) ?_
          exact ih (j + 1) (C) H locs ls (by omega) (by rw [← hq]; simp [coL, h1]) hP hD hS (lv_sub hl [0, 1, 2, 3, 4, 5, 6] rfl)
        · refine lv_aload_n hx hb dT_changeOther_34 rfl (lv_at hl 3 rfl) ?_
          refine lv_iload_n hx hb dT_changeOther_35 rfl (lv_at hl 4 rfl) ?_
          refine lv_iload hx hb dT_changeOther_36 (lv_at hl 0 rfl) ?_
          refine lv_aload_n hx hb dT_changeOther_38 rfl (lv_at hl 3 rfl) ?_
          refine lv_aload_n hx hb dT_changeOther_39 rfl (lv_at hl 3 rfl) ?_
          refine lv_iload_n hx hb dT_changeOther_40 rfl (lv_at hl 4 rfl) ?_
          refine lv_iload hx hb dT_changeOther_41 (lv_at hl 0 rfl) ?_
          refine rd_call (va_runV (As := [.int (nI i), .int (nI j)]) (rest := [.ref (ad 0), .int (nI j), .int (nI i), .ref (ad 0)]) ⟨hx, hb, hml, hown, hta⟩ (c_T_cell l dC dI ad k (ts C T.I T.O T.G T.S T.w T.h T.d) i j (by first | omega | exact hw | exact hh)) (cwV 2 hta (gV m_123 m_125 mp_4 m_2 m_126) rfl rfl rfl (by decide +kernel) ⟨Nat.le_of_ble_eq_true rfl, Nat.le_of_ble_eq_true rfl⟩) (rd_V xT_ok trivial hK hP (ci := 0) (q0 := 0) rfl rfl) rfl rfl hl.1 rfl (lv_room (Nat.le_of_ble_eq_true rfl)) dT_changeOther_43 ⟨Nat.zero_le _, Nat.zero_le _⟩) ?_
          refine W.eq (g2 := F0 m 46 ls [.long (C (i * 13 + j)), .ref (ad 0), .int (nI j), .int (nI i), .ref (ad 0)]) rfl ?_
          refine lv_lload hx hb dT_changeOther_46 (lv_at hl 2 rfl) ?_
          refine lv_lload hx hb dT_changeOther_48 (lv_at hl 1 rfl) ?_
          refine lv_aload_n hx hb dT_changeOther_50 rfl (lv_at hl 3 rfl) ?_
          refine lv_iload_n hx hb dT_changeOther_51 rfl (lv_at hl 5 rfl) ?_
          refine lv_iload hx hb dT_changeOther_52 (lv_at hl 0 rfl) ?_
          refine rd_call (wd_runV (As := [.int (nI le), .int (nI j)]) (rest := [.long (T.C (i * 13 + en)), .long (T.C (le * 13 + en)), .long (C (i * 13 + j)), .ref (ad 0), .int (nI j), .int (nI i), .ref (ad 0)]) ⟨hx, hb, hml, hown, hta⟩ (c_T_cell l dC dI ad k (ts C T.I T.O T.G T.S T.w T.h T.d) le j (by first | omega | exact hw | exact hh)) (cwV 2 hta (gV m_123 m_125 mp_4 m_2 m_126) rfl rfl rfl (by decide +kernel) ⟨Nat.le_of_ble_eq_true rfl, Nat.le_of_ble_eq_true rfl⟩) (Nat.le_of_ble_eq_true rfl) (rd_V xT_ok trivial hK hP (ci := 0) (q0 := 0) rfl rfl) rfl rfl hl.1 rfl (wd_room (Nat.le_of_ble_eq_true rfl)) dT_changeOther_54 ⟨Nat.zero_le _, Nat.zero_le _⟩) ?_
          refine W.eq (g2 := F0 m 57 ls [.long (C (le * 13 + j)), .long (T.C (i * 13 + en)), .long (T.C (le * 13 + en)), .long (C (i * 13 + j)), .ref (ad 0), .int (nI j), .int (nI i), .ref (ad 0)]) rfl ?_
          refine rd_call (va_runV (As := [.long (C (i * 13 + j)), .long (T.C (le * 13 + en)), .long (T.C (i * 13 + en)), .long (C (le * 13 + j))]) (rest := [.int (nI j), .int (nI i), .ref (ad 0)]) ⟨hx, hb, hml, hown, hta⟩ (c_T_afterStep l dC dI ad k (ts C T.I T.O T.G T.S T.w T.h T.d) (C (i * 13 + j)) (T.C (le * 13 + en)) (T.C (i * 13 + en)) (C (le * 13 + j))) (cwV 4 hta (gV m_414 m_416 mp_33 m_2 m_417) rfl rfl rfl (by decide +kernel) ⟨Nat.le_of_ble_eq_true rfl, Nat.le_of_ble_eq_true rfl⟩) (rd_V xT_ok trivial hK hP (ci := 0) (q0 := 0) rfl rfl) rfl rfl hl.1 rfl (lv_room (Nat.le_of_ble_eq_true rfl)) dT_changeOther_57 ⟨Nat.zero_le _, Nat.zero_le _⟩) ?_
          refine W.eq (g2 := F0 m 60 ls [.long (afM T.d (C (i * 13 + j)) (T.C (le * 13 + en)) (T.C (i * 13 + en)) (C (le * 13 + j))), .int (nI j), .int (nI i), .ref (ad 0)]) rfl ?_
          refine wr_call (X := ([] : va_W)) (va_runV (As := [.int (nI i), .int (nI j), .long (afM T.d (C (i * 13 + j)) (T.C (le * 13 + en)) (T.C (i * 13 + en)) (C (le * 13 + j)))]) (rest := []) ⟨hx, hb, hml, hown, hta⟩ (c_T_setCell l dC dI ad k (ts C T.I T.O T.G T.S T.w T.h T.d) H.size i j (afM T.d (C (i * 13 + j)) (T.C (le * 13 + en)) (T.C (i * 13 + en)) (C (le * 13 + j))) (by first | omega | exact hw | exact hh)) (cwV 3 hta (gV m_240 m_242 mp_8 m_2 m_243) rfl rfl rfl (by decide +kernel) ⟨Nat.le_of_ble_eq_true rfl, Nat.le_of_ble_eq_true rfl⟩) (wr_V xT_ok trivial hK hP hD (ci := 0) (q0 := 0) rfl rfl) rfl rfl hl.1 rfl (lv_room (Nat.le_of_ble_eq_true rfl)) dT_changeOther_60 ⟨Nat.zero_le _, Nat.zero_le _⟩) hP hD hS hA rfl (fun H locs hP hD hS => ?_)
          have hP : va_P (dC, dI) vwCl (TW ad k (ts (vp_updL C (i * 13 + j) (afM T.d (C (i * 13 + j)) (T.C (le * 13 + en)) (T.C (i * 13 + en)) (C (le * 13 + j)))) T.I T.O T.G T.S T.w T.h T.d)) H := hP
          have hD : va_D A (TW ad k (ts (vp_updL C (i * 13 + j) (afM T.d (C (i * 13 + j)) (T.C (le * 13 + en)) (T.C (i * 13 + en)) (C (le * 13 + j)))) T.I T.O T.G T.S T.w T.h T.d)) := hD
          refine W.eq (g2 := F0 m 63 ls []) rfl ?_
          refine lv_iinc (v := nI (j + 1)) (lv' := [(8, .int (nI (j + 1))), (6, .long (T.C (i * 13 + en))), (4, .long (T.C (le * 13 + en))), (0, .ref (ad 0)), (1, .int (nI i)), (2, .int (nI le)), (3, .int (nI en))]) hx hb dT_changeOther_63 hl (k := 0) rfl (nI_add j 1) (by decide) rfl (fun ls hl => ?_)
          refine lv_goto (tgt := 19) hx hb dT_changeOther_66 (by decide) ?_
          exact ih (j + 1) (vp_updL C (i * 13 + j) (afM T.d (C (i * 13 + j)) (T.C (le * 13 + en)) (T.C (i * 13 + en)) (C (le * 13 + j)))) H locs ls (by omega) (by rw [← hq]; simp [coL, h1]) hP hD hS (lv_sub hl [0, 1, 2, 3, 4, 5, 6] rfl)
  exact loop19 (T.w + 1) 0 T.C s.heap [] ls (by omega) rfl hP hD hS (lv_sub hl [0, 1, 2, 3, 4, 5, 6] rfl)

set_option maxHeartbeats 4000000 in
set_option maxRecDepth 100000 in
theorem c_T_change (l : Launch) (dC : Nat → ClassId) (dI : Nat → Nat → Nat) (ad : Nat → Nat) (k : Nat → ClassId) (T : TS) (sz : Nat) (le en : Nat) (hw : T.w ≤ 12) (hh : T.h ≤ 24) (hle : le < 25) (hen : en < 13) : Met l yT_change wT_change ({ frames := 2, cells := 0, slots := 0, locals := 64 }) (wPc [.ref (ad 0), .int (nI le), .int (nI en)] sz (dC, dI) vwCl (TW ad k T) (TK k) xT) (wQ none (dC, dI) vwCl (TW ad k (chM T le en)) (va_A (TW ad k T) sz)) 0 0 (va_A (TW ad k T) sz) := by
  refine Met.ofW (cc := bT_change) (maxL := 6) (ret := none) (by decide) rfl ?_
  intro p e s m args below meth c s₁ B hml hv
  obtain ⟨rfl, hsz, hP, hK, hD0, hX⟩ := hv
  have hx := B.exec
  have hb := B.bytes
  have hr := B.returns
  have hts := atoms_spec (ws := wT_change) B.pre
  have hta : ∀ w ∈ AW, w.before _ s = true := fun w h => hts w (List.mem_cons_of_mem _ h)
  have hown : s.vm.findClass RT = some m.cls := findClass_of_methodNamed B.named
  have hlocks := B.notSynchronized
  subst hsz
  have hD := hD0.self (sz := s.heap.size)
  generalize hAe : va_A (TW ad k T) s.heap.size = A at hD ⊢
  have hA : ∀ q : Nat, s.heap.size ≤ q → A q := fun q h => by rw [← hAe]; exact Or.inr h
  have hS : va_S A s.heap s.heap [] := va_S.rf
  have hl := lv_entry ([.ref (ad 0), .int (nI le), .int (nI en)]) (n := 6) (Nat.le_of_ble_eq_true rfl)
  rw [lg_entry_eq]
  generalize (lg_sl ([.ref (ad 0), .int (nI le), .int (nI en)]) ++ List.replicate (6 - (lg_sl ([.ref (ad 0), .int (nI le), .int (nI en)])).length) Slot.unset).toArray = ls at hl ⊢
  have hl : lv_has ls 6 [(0, .ref (ad 0)), (1, .int (nI le)), (2, .int (nI en))] := hl
  refine lv_aload_n hx hb dT_change_0 rfl (lv_at hl 0 rfl) ?_
  refine lv_iload_n hx hb dT_change_1 rfl (lv_at hl 1 rfl) ?_
  refine lv_iload_n hx hb dT_change_2 rfl (lv_at hl 2 rfl) ?_
  refine rd_call (va_runV (As := [.int (nI le), .int (nI en)]) (rest := []) ⟨hx, hb, hml, hown, hta⟩ (c_T_cell l dC dI ad k T le en (by first | omega | exact hw | exact hh)) (cwV 2 hta (gV m_123 m_125 mp_4 m_2 m_126) rfl rfl rfl (by decide +kernel) ⟨Nat.le_of_ble_eq_true rfl, Nat.le_of_ble_eq_true rfl⟩) (rd_V xT_ok trivial hK hP (ci := 0) (q0 := 0) rfl rfl) rfl rfl hl.1 rfl (lv_room (Nat.le_of_ble_eq_true rfl)) dT_change_3 ⟨Nat.zero_le _, Nat.zero_le _⟩) ?_
  refine W.eq (g2 := F0 m 6 ls [.long (T.C (le * 13 + en))]) rfl ?_
  refine lv_lstore_n (lv' := [(3, .long (T.C (le * 13 + en))), (0, .ref (ad 0)), (1, .int (nI le)), (2, .int (nI en))]) hx hb dT_change_6 rfl hl (by decide) rfl (fun ls hl => ?_)
  refine lv_iconst (v := nI 0) hx hb dT_change_7 (by decide) ?_
  refine lv_istore (lv' := [(5, .int (nI 0)), (3, .long (T.C (le * 13 + en))), (0, .ref (ad 0)), (1, .int (nI le)), (2, .int (nI en))]) hx hb dT_change_8 hl (by decide) rfl (fun ls hl => ?_)
  have loop10 : ∀ (n : Nat) (i : Nat) (C : Nat → Int64) (H : Heap) (locs : List Loc) (ls : Array Slot), (i + n = T.h + 1) → (chL T.d T.w le en i n C = chL T.d T.w le en 0 (T.h + 1) T.C) → va_P (dC, dI) vwCl (TW ad k (ts C T.I T.O T.G T.S T.w T.h T.d)) H → va_D A (TW ad k (ts C T.I T.O T.G T.S T.w T.h T.d)) → va_S A s.heap H locs → lv_has ls 6 [(5, .int (nI i)), (3, .long (T.C (le * 13 + en))), (0, .ref (ad 0)), (1, .int (nI le)), (2, .int (nI en))] → W p l e (headSpec wT_change ({ frames := 2, cells := 0, slots := 0, locals := 64 })).room s m ([.ref (ad 0), .int (nI le), .int (nI en)] : List Value).toArray below meth c H locs 0 0 (MQ below (wQ none (dC, dI) vwCl (TW ad k (chM T le en)) A) ([.ref (ad 0), .int (nI le), .int (nI en)] : List Value).toArray s 0 0 A) (F0 m 10 ls []) := by
    intro n
    induction n with
    | zero =>
      intro i C H locs ls hn hq hP hD hS hl
      refine lv_iload hx hb dT_change_10 (lv_at hl 0 rfl) ?_
      refine lv_aload_n hx hb dT_change_12 rfl (lv_at hl 2 rfl) ?_
      refine va_get (D := (dC, dI)) (ci := 0) (v := .int (nI T.h)) (C := RT) (T := FT) (N := 8) hx hb hta iT hown hK hP 0 rfl rfl 6 (by decide) (hta _ m_34) (fun _ h9 => h9) rfl dT_change_13 ?_
      refine ni_gt (tgt := 39) hx hb dT_change_16 (by decide) (by omega) (by omega) (fun c_1 => ?_) (fun c_1 => ?_)
      · refine lv_aload_n hx hb dT_change_39 rfl (lv_at hl 2 rfl) ?_
        refine lv_iload_n hx hb dT_change_40 rfl (lv_at hl 3 rfl) ?_
        refine lv_iload_n hx hb dT_change_41 rfl (lv_at hl 4 rfl) ?_
        refine wr_call (X := ([] : va_W)) (va_runV (As := [.int (nI le), .int (nI en)]) (rest := []) ⟨hx, hb, hml, hown, hta⟩ (c_T_changeEntered l dC dI ad k (ts C T.I T.O T.G T.S T.w T.h T.d) H.size le en (by first | omega | exact hw | exact hh) (by first | omega | exact hw | exact hh) (by first | omega | exact hw | exact hh)) (cwV 2 hta (gV m_426 m_428 mp_36 m_2 m_429) rfl rfl rfl (by decide +kernel) ⟨Nat.le_of_ble_eq_true rfl, Nat.le_of_ble_eq_true rfl⟩) (wr_V xT_ok trivial hK hP hD (ci := 0) (q0 := 0) rfl rfl) rfl rfl hl.1 rfl (lv_room (Nat.le_of_ble_eq_true rfl)) dT_change_42 ⟨Nat.zero_le _, Nat.zero_le _⟩) hP hD hS hA rfl (fun H locs hP hD hS => ?_)
        have hP : va_P (dC, dI) vwCl (TW ad k (ts (ceL T.d le en 0 (T.w + 1) C) T.I T.O T.G T.S T.w T.h T.d)) H := hP
        have hD : va_D A (TW ad k (ts (ceL T.d le en 0 (T.w + 1) C) T.I T.O T.G T.S T.w T.h T.d)) := hD
        refine W.eq (g2 := F0 m 45 ls []) rfl ?_
        refine lv_aload_n hx hb dT_change_45 rfl (lv_at hl 2 rfl) ?_
        refine va_get (D := (dC, dI)) (ci := 0) (v := .ref (ad 2)) (C := RT) (T := FT) (N := 8) hx hb hta iT hown hK hP 0 rfl rfl 1 (by decide) (hta _ m_27) (fun _ h9 => h9) rfl dT_change_46 ?_
        refine lv_iload_n hx hb dT_change_49 rfl (lv_at hl 3 rfl) ?_
        refine na_iald hx hb hK hP 2 1 rfl rfl (i := le) (by omega) (by decide) dT_change_50 ?_
        refine lv_istore (lv' := [(5, .int (T.I le)), (3, .long (T.C (le * 13 + en))), (0, .ref (ad 0)), (1, .int (nI le)), (2, .int (nI en))]) hx hb dT_change_51 hl (by decide) rfl (fun ls hl => ?_)
        refine lv_aload_n hx hb dT_change_53 rfl (lv_at hl 2 rfl) ?_
        refine va_get (D := (dC, dI)) (ci := 0) (v := .ref (ad 2)) (C := RT) (T := FT) (N := 8) hx hb hta iT hown hK hP 0 rfl rfl 1 (by decide) (hta _ m_27) (fun _ h9 => h9) rfl dT_change_54 ?_
        refine lv_iload_n hx hb dT_change_57 rfl (lv_at hl 3 rfl) ?_
        refine lv_aload_n hx hb dT_change_58 rfl (lv_at hl 2 rfl) ?_
        refine va_get (D := (dC, dI)) (ci := 0) (v := .ref (ad 3)) (C := RT) (T := FT) (N := 8) hx hb hta iT hown hK hP 0 rfl rfl 2 (by decide) (hta _ m_29) (fun _ h9 => h9) rfl dT_change_59 ?_
        refine lv_iload_n hx hb dT_change_62 rfl (lv_at hl 4 rfl) ?_
        refine na_iald hx hb hK hP 3 2 rfl rfl (i := en) (by omega) (by decide) dT_change_63 ?_
        refine na_iast hx hb hK hP hD hS 2 1 rfl rfl (i := le) (x := T.O en) (by omega) (by decide) dT_change_64 (fun H locs hP hD hS => ?_)
        have hP : va_P (dC, dI) vwCl (TW ad k (ts (ceL T.d le en 0 (T.w + 1) C) (upd T.I le (T.O en)) T.O T.G T.S T.w T.h T.d)) H := hP
        have hD : va_D A (TW ad k (ts (ceL T.d le en 0 (T.w + 1) C) (upd T.I le (T.O en)) T.O T.G T.S T.w T.h T.d)) := hD
        refine lv_aload_n hx hb dT_change_65 rfl (lv_at hl 2 rfl) ?_
        refine va_get (D := (dC, dI)) (ci := 0) (v := .ref (ad 3)) (C := RT) (T := FT) (N := 8) hx hb hta iT hown hK hP 0 rfl rfl 2 (by decide) (hta _ m_29) (fun _ h9 => h9) rfl dT_change_66 ?_
        refine lv_iload_n hx hb dT_change_69 rfl (lv_at hl 4 rfl) ?_
        refine lv_iload hx hb dT_change_70 (lv_at hl 0 rfl) ?_
        refine na_iast hx hb hK hP hD hS 3 2 rfl rfl (i := en) (x := T.I le) (by omega) (by decide) dT_change_72 (fun H locs hP hD hS => ?_)
        have hP : va_P (dC, dI) vwCl (TW ad k (ts (ceL T.d le en 0 (T.w + 1) C) (upd T.I le (T.O en)) (upd T.O en (T.I le)) T.G T.S T.w T.h T.d)) H := hP
        have hD : va_D A (TW ad k (ts (ceL T.d le en 0 (T.w + 1) C) (upd T.I le (T.O en)) (upd T.O en (T.I le)) T.G T.S T.w T.h T.d)) := hD
        refine lv_aload_n hx hb dT_change_73 rfl (lv_at hl 2 rfl) ?_
        refine lv_lload_n hx hb dT_change_74 rfl (lv_at hl 1 rfl) ?_
        refine va_put (D := (dC, dI)) (ci := 0) (v := .long (T.C (le * 13 + en))) (ty := .long) (C := RT) (T := FT) (N := 8) hx hb hta iT tT tT_ok nT hown hK hP hD hS 0 rfl rfl 7 (by decide) (hta _ m_36) (fun _ h9 => h9) rfl (by decide +kernel) rfl rfl (Nat.le_of_ble_eq_true rfl) dT_change_75 (fun H locs hP hD hS => ?_)
        have hP : va_P (dC, dI) vwCl (TW ad k (ts (ceL T.d le en 0 (T.w + 1) C) (upd T.I le (T.O en)) (upd T.O en (T.I le)) T.G T.S T.w T.h (T.C (le * 13 + en)))) H := hP
        have hD : va_D A (TW ad k (ts (ceL T.d le en 0 (T.w + 1) C) (upd T.I le (T.O en)) (upd T.O en (T.I le)) T.G T.S T.w T.h (T.C (le * 13 + en)))) := hD
        exact W.vret hx hb hr (fun t ht hW => ⟨rfl, by rw [ht]; exact (by rw [show chM T le en = (ts (ceL T.d le en 0 (T.w + 1) C) (upd T.I le (T.O en)) (upd T.O en (T.I le)) T.G T.S T.w T.h (T.C (le * 13 + en))) by (rw [chM, ← hq]; rfl)]; exact hP), hS.F ht⟩) hS.2.2 dT_change_78
      · exfalso; omega
    | succ n ih =>
      intro i C H locs ls hn hq hP hD hS hl
      refine lv_iload hx hb dT_change_10 (lv_at hl 0 rfl) ?_
      refine lv_aload_n hx hb dT_change_12 rfl (lv_at hl 2 rfl) ?_
      refine va_get (D := (dC, dI)) (ci := 0) (v := .int (nI T.h)) (C := RT) (T := FT) (N := 8) hx hb hta iT hown hK hP 0 rfl rfl 6 (by decide) (hta _ m_34) (fun _ h9 => h9) rfl dT_change_13 ?_
      refine ni_gt (tgt := 39) hx hb dT_change_16 (by decide) (by omega) (by omega) (fun c_2 => ?_) (fun c_2 => ?_)
      · exfalso; omega
      · refine lv_iload hx hb dT_change_19 (lv_at hl 0 rfl) ?_
        refine lv_iload_n hx hb dT_change_21 rfl (lv_at hl 3 rfl) ?_
        refine ni_eq (tgt := 33) hx hb dT_change_22 (by decide) (by omega) (by omega) (fun h1 => ?_) (fun h1 => ?_)
        · refine lv_iinc (v := nI (i + 1)) (lv' := [(5, .int (nI (i + 1))), (3, .long (T.C (le * 13 + en))), (0, .ref (ad 0)), (1, .int (nI le)), (2, .int (nI en))]) hx hb dT_change_33 hl (k := 0) rfl (nI_add i 1) (by decide) rfl (fun ls hl => ?_)
          refine lv_goto (tgt := 10) hx hb dT_change_36 (by decide) ?_
          exact ih (i + 1) (C) H locs ls (by omega) (by rw [← hq]; simp [chL, h1]) hP hD hS (lv_sub hl [0, 1, 2, 3, 4] rfl)
        · refine lv_aload_n hx hb dT_change_25 rfl (lv_at hl 2 rfl) ?_
          refine lv_iload hx hb dT_change_26 (lv_at hl 0 rfl) ?_
          refine lv_iload_n hx hb dT_change_28 rfl (lv_at hl 3 rfl) ?_
          refine lv_iload_n hx hb dT_change_29 rfl (lv_at hl 4 rfl) ?_
          refine wr_call (X := ([] : va_W)) (va_runV (As := [.int (nI i), .int (nI le), .int (nI en)]) (rest := []) ⟨hx, hb, hml, hown, hta⟩ (c_T_changeOther l dC dI ad k (ts C T.I T.O T.G T.S T.w T.h T.d) H.size i le en (by first | omega | exact hw | exact hh) (by first | omega | exact hw | exact hh) (by first | omega | exact hw | exact hh) (by first | omega | exact hw | exact hh)) (cwV 3 hta (gV m_422 m_424 mp_35 m_2 m_425) rfl rfl rfl (by decide +kernel) ⟨Nat.le_of_ble_eq_true rfl, Nat.le_of_ble_eq_true rfl⟩) (wr_V xT_ok trivial hK hP hD (ci := 0) (q0 := 0) rfl rfl) rfl rfl hl.1 rfl (lv_room (Nat.le_of_ble_eq_true rfl)) dT_change_30 ⟨Nat.zero_le _, Nat.zero_le _⟩) hP hD hS hA rfl (fun H locs hP hD hS => ?_)
          have hP : va_P (dC, dI) vwCl (TW ad k (ts (coM T.d T.w i le en C) T.I T.O T.G T.S T.w T.h T.d)) H := hP
          have hD : va_D A (TW ad k (ts (coM T.d T.w i le en C) T.I T.O T.G T.S T.w T.h T.d)) := hD
          refine W.eq (g2 := F0 m 33 ls []) rfl ?_
          refine lv_iinc (v := nI (i + 1)) (lv' := [(5, .int (nI (i + 1))), (3, .long (T.C (le * 13 + en))), (0, .ref (ad 0)), (1, .int (nI le)), (2, .int (nI en))]) hx hb dT_change_33 hl (k := 0) rfl (nI_add i 1) (by decide) rfl (fun ls hl => ?_)
          refine lv_goto (tgt := 10) hx hb dT_change_36 (by decide) ?_
          exact ih (i + 1) (coM T.d T.w i le en C) H locs ls (by omega) (by rw [← hq]; simp [chL, h1]) hP hD hS (lv_sub hl [0, 1, 2, 3, 4] rfl)
  exact loop10 (T.h + 1) 0 T.C s.heap [] ls (by omega) rfl hP hD hS (lv_sub hl [0, 1, 2, 3, 4] rfl)

set_option maxHeartbeats 4000000 in
set_option maxRecDepth 100000 in
theorem c_T_copyStarts (l : Launch) (dC : Nat → ClassId) (dI : Nat → Nat → Nat) (ad : Nat → Nat) (k : Nat → ClassId) (T : TS) (sz : Nat)  (hh : T.h ≤ 24) : Met l yT_copyStarts wT_copyStarts ({ frames := 1, cells := 0, slots := 0, locals := 22 }) (wPc [.ref (ad 0)] sz (dC, dI) vwCl (TW ad k T) (TK k) xT) (wQ none (dC, dI) vwCl (TW ad k (ts T.C T.I T.O T.G (csL T.C 0 (T.h + 1) T.S) T.w T.h T.d)) (va_A (TW ad k T) sz)) 0 0 (va_A (TW ad k T) sz) := by
  refine Met.ofW (cc := bT_copyStarts) (maxL := 2) (ret := none) (by decide) rfl ?_
  intro p e s m args below meth c s₁ B hml hv
  obtain ⟨rfl, hsz, hP, hK, hD0, hX⟩ := hv
  have hx := B.exec
  have hb := B.bytes
  have hr := B.returns
  have hts := atoms_spec (ws := wT_copyStarts) B.pre
  have hta : ∀ w ∈ AW, w.before _ s = true := fun w h => hts w (List.mem_cons_of_mem _ h)
  have hown : s.vm.findClass RT = some m.cls := findClass_of_methodNamed B.named
  have hlocks := B.notSynchronized
  subst hsz
  have hD := hD0.self (sz := s.heap.size)
  generalize hAe : va_A (TW ad k T) s.heap.size = A at hD ⊢
  have hA : ∀ q : Nat, s.heap.size ≤ q → A q := fun q h => by rw [← hAe]; exact Or.inr h
  have hS : va_S A s.heap s.heap [] := va_S.rf
  have hl := lv_entry ([.ref (ad 0)]) (n := 2) (Nat.le_of_ble_eq_true rfl)
  rw [lg_entry_eq]
  generalize (lg_sl ([.ref (ad 0)]) ++ List.replicate (2 - (lg_sl ([.ref (ad 0)])).length) Slot.unset).toArray = ls at hl ⊢
  have hl : lv_has ls 2 [(0, .ref (ad 0))] := hl
  refine lv_iconst (v := nI 0) hx hb dT_copyStarts_0 (by decide) ?_
  refine lv_istore_n (lv' := [(1, .int (nI 0)), (0, .ref (ad 0))]) hx hb dT_copyStarts_1 rfl hl (by decide) rfl (fun ls hl => ?_)
  have loop2 : ∀ (n : Nat) (i : Nat) (S : Nat → Int64) (H : Heap) (locs : List Loc) (ls : Array Slot), (i + n = T.h + 1) → (csL T.C i n S = csL T.C 0 (T.h + 1) T.S) → va_P (dC, dI) vwCl (TW ad k (ts T.C T.I T.O T.G S T.w T.h T.d)) H → va_D A (TW ad k (ts T.C T.I T.O T.G S T.w T.h T.d)) → va_S A s.heap H locs → lv_has ls 2 [(1, .int (nI i)), (0, .ref (ad 0))] → W p l e (headSpec wT_copyStarts ({ frames := 1, cells := 0, slots := 0, locals := 22 })).room s m ([.ref (ad 0)] : List Value).toArray below meth c H locs 0 0 (MQ below (wQ none (dC, dI) vwCl (TW ad k (ts T.C T.I T.O T.G (csL T.C 0 (T.h + 1) T.S) T.w T.h T.d)) A) ([.ref (ad 0)] : List Value).toArray s 0 0 A) (F0 m 2 ls []) := by
    intro n
    induction n with
    | zero =>
      intro i S H locs ls hn hq hP hD hS hl
      refine lv_iload_n hx hb dT_copyStarts_2 rfl (lv_at hl 0 rfl) ?_
      refine lv_aload_n hx hb dT_copyStarts_3 rfl (lv_at hl 1 rfl) ?_
      refine va_get (D := (dC, dI)) (ci := 0) (v := .int (nI T.h)) (C := RT) (T := FT) (N := 8) hx hb hta iT hown hK hP 0 rfl rfl 6 (by decide) (hta _ m_34) (fun _ h9 => h9) rfl dT_copyStarts_4 ?_
      refine ni_gt (tgt := 28) hx hb dT_copyStarts_7 (by decide) (by omega) (by omega) (fun c_1 => ?_) (fun c_1 => ?_)
      · exact W.vret hx hb hr (fun t ht hW => ⟨rfl, by rw [ht]; exact (by rw [← hq]; exact hP), hS.F ht⟩) hS.2.2 dT_copyStarts_28
      · exfalso; omega
    | succ n ih =>
      intro i S H locs ls hn hq hP hD hS hl
      refine lv_iload_n hx hb dT_copyStarts_2 rfl (lv_at hl 0 rfl) ?_
      refine lv_aload_n hx hb dT_copyStarts_3 rfl (lv_at hl 1 rfl) ?_
      refine va_get (D := (dC, dI)) (ci := 0) (v := .int (nI T.h)) (C := RT) (T := FT) (N := 8) hx hb hta iT hown hK hP 0 rfl rfl 6 (by decide) (hta _ m_34) (fun _ h9 => h9) rfl dT_copyStarts_4 ?_
      refine ni_gt (tgt := 28) hx hb dT_copyStarts_7 (by decide) (by omega) (by omega) (fun c_2 => ?_) (fun c_2 => ?_)
      · exfalso; omega
      · refine lv_aload_n hx hb dT_copyStarts_10 rfl (lv_at hl 1 rfl) ?_
        refine va_get (D := (dC, dI)) (ci := 0) (v := .ref (ad 5)) (C := RT) (T := FT) (N := 8) hx hb hta iT hown hK hP 0 rfl rfl 4 (by decide) (hta _ m_31) (fun _ h9 => h9) rfl dT_copyStarts_11 ?_
        refine lv_iload_n hx hb dT_copyStarts_14 rfl (lv_at hl 0 rfl) ?_
        refine lv_aload_n hx hb dT_copyStarts_15 rfl (lv_at hl 1 rfl) ?_
        refine lv_iload_n hx hb dT_copyStarts_16 rfl (lv_at hl 0 rfl) ?_
        refine lv_iconst (v := nI 0) hx hb dT_copyStarts_17 (by decide) ?_
        refine rd_call (va_runV (As := [.int (nI i), .int (nI 0)]) (rest := [.int (nI i), .ref (ad 5)]) ⟨hx, hb, hml, hown, hta⟩ (c_T_cell l dC dI ad k (ts T.C T.I T.O T.G S T.w T.h T.d) i 0 (by first | omega | exact hw | exact hh)) (cwV 2 hta (gV m_123 m_125 mp_4 m_2 m_126) rfl rfl rfl (by decide +kernel) ⟨Nat.le_of_ble_eq_true rfl, Nat.le_of_ble_eq_true rfl⟩) (rd_V xT_ok trivial hK hP (ci := 0) (q0 := 0) rfl rfl) rfl rfl hl.1 rfl (lv_room (Nat.le_of_ble_eq_true rfl)) dT_copyStarts_18 ⟨Nat.zero_le _, Nat.zero_le _⟩) ?_
        refine W.eq (g2 := F0 m 21 ls [.long (T.C (i * 13 + 0)), .int (nI i), .ref (ad 5)]) rfl ?_
        refine na_last hx hb hK hP hD hS 5 4 rfl rfl (i := i) (x := T.C (i * 13 + 0)) (by omega) (by decide) dT_copyStarts_21 (fun H locs hP hD hS => ?_)
        have hP : va_P (dC, dI) vwCl (TW ad k (ts T.C T.I T.O T.G (vp_updL S i (T.C (i * 13 + 0))) T.w T.h T.d)) H := hP
        have hD : va_D A (TW ad k (ts T.C T.I T.O T.G (vp_updL S i (T.C (i * 13 + 0))) T.w T.h T.d)) := hD
        refine lv_iinc (v := nI (i + 1)) (lv' := [(1, .int (nI (i + 1))), (0, .ref (ad 0))]) hx hb dT_copyStarts_22 hl (k := 0) rfl (nI_add i 1) (by decide) rfl (fun ls hl => ?_)
        refine lv_goto (tgt := 2) hx hb dT_copyStarts_25 (by decide) ?_
        exact ih (i + 1) (vp_updL S i (T.C (i * 13 + 0))) H locs ls (by omega) (by rw [← hq]; rfl) hP hD hS (lv_sub hl [0, 1] rfl)
  exact loop2 (T.h + 1) 0 T.S s.heap [] ls (by omega) rfl hP hD hS (lv_sub hl [0, 1] rfl)

set_option maxHeartbeats 4000000 in
set_option maxRecDepth 100000 in
theorem c_T_moveCopied (l : Launch) (dC : Nat → ClassId) (dI : Nat → Nat → Nat) (ad : Nat → Nat) (k : Nat → ClassId) (T : TS) (sz : Nat) (v : Int32) (f : Int64) (hw : T.w ≤ 12) (hh : T.h ≤ 24) : Met l yT_moveCopied wT_moveCopied ({ frames := 1, cells := 0, slots := 0, locals := 22 }) (wPc [.ref (ad 0), .int v, .long f] sz (dC, dI) vwCl (TW ad k T) (TK k) xT) (wQ none (dC, dI) vwCl (TW ad k (ts T.C T.I T.O T.G (mcM T v f) T.w T.h T.d)) (va_A (TW ad k T) sz)) 0 0 (va_A (TW ad k T) sz) := by
  refine Met.ofW (cc := bT_moveCopied) (maxL := 7) (ret := none) (by decide) rfl ?_
  intro p e s m args below meth c s₁ B hml hv
  obtain ⟨rfl, hsz, hP, hK, hD0, hX⟩ := hv
  have hx := B.exec
  have hb := B.bytes
  have hr := B.returns
  have hts := atoms_spec (ws := wT_moveCopied) B.pre
  have hta : ∀ w ∈ AW, w.before _ s = true := fun w h => hts w (List.mem_cons_of_mem _ h)
  have hown : s.vm.findClass RT = some m.cls := findClass_of_methodNamed B.named
  have hlocks := B.notSynchronized
  subst hsz
  have hD := hD0.self (sz := s.heap.size)
  generalize hAe : va_A (TW ad k T) s.heap.size = A at hD ⊢
  have hA : ∀ q : Nat, s.heap.size ≤ q → A q := fun q h => by rw [← hAe]; exact Or.inr h
  have hS : va_S A s.heap s.heap [] := va_S.rf
  have hl := lv_entry ([.ref (ad 0), .int v, .long f]) (n := 7) (Nat.le_of_ble_eq_true rfl)
  rw [lg_entry_eq]
  generalize (lg_sl ([.ref (ad 0), .int v, .long f]) ++ List.replicate (7 - (lg_sl ([.ref (ad 0), .int v, .long f])).length) Slot.unset).toArray = ls at hl ⊢
  have hl : lv_has ls 7 [(0, .ref (ad 0)), (1, .int v), (2, .long f)] := hl
  refine lv_aload_n hx hb dT_moveCopied_0 rfl (lv_at hl 0 rfl) ?_
  refine lv_iload_n hx hb dT_moveCopied_1 rfl (lv_at hl 1 rfl) ?_
  refine rd_call (va_runV (As := [.int v]) (rest := []) ⟨hx, hb, hml, hown, hta⟩ (c_T_placeInside l dC dI ad k T v (by first | omega | exact hw | exact hh)) (cwV 1 hta (gV m_119 m_121 mp_3 m_2 m_122) rfl rfl rfl (by decide +kernel) ⟨Nat.le_of_ble_eq_true rfl, Nat.le_of_ble_eq_true rfl⟩) (rd_V xT_ok trivial hK hP (ci := 0) (q0 := 0) rfl rfl) rfl rfl hl.1 rfl (lv_room (Nat.le_of_ble_eq_true rfl)) dT_moveCopied_2 ⟨Nat.zero_le _, Nat.zero_le _⟩) ?_
  refine W.eq (g2 := F0 m 5 ls [.int (enc (fnd T.I v 1 T.h))]) rfl ?_
  refine lv_istore (lv' := [(4, .int (enc (fnd T.I v 1 T.h))), (0, .ref (ad 0)), (1, .int v), (2, .long f)]) hx hb dT_moveCopied_5 hl (by decide) rfl (fun ls hl => ?_)
  refine lv_iload hx hb dT_moveCopied_7 (lv_at hl 0 rfl) ?_
  refine lv_iconst (v := (-1)) hx hb dT_moveCopied_9 (by decide) ?_
  refine en_eq (o := (fnd T.I v 1 T.h)) (tgt := 30) hx hb dT_moveCopied_10 (by decide) (fun j h => by have := fnd_lt h; omega) (fun ho => ?_) (fun j_1 ho => ?_)
  · rw [ho] at hl
    have hl : lv_has ls 7 [(4, .int (-1)), (0, .ref (ad 0)), (1, .int v), (2, .long f)] := hl
    refine lv_aload_n hx hb dT_moveCopied_30 rfl (lv_at hl 1 rfl) ?_
    refine lv_iload_n hx hb dT_moveCopied_31 rfl (lv_at hl 2 rfl) ?_
    refine rd_call (va_runV (As := [.int v]) (rest := []) ⟨hx, hb, hml, hown, hta⟩ (c_T_placeOutside l dC dI ad k T v (by first | omega | exact hw | exact hh)) (cwV 1 hta (gV m_342 m_344 mp_19 m_2 m_345) rfl rfl rfl (by decide +kernel) ⟨Nat.le_of_ble_eq_true rfl, Nat.le_of_ble_eq_true rfl⟩) (rd_V xT_ok trivial hK hP (ci := 0) (q0 := 0) rfl rfl) rfl rfl hl.1 rfl (lv_room (Nat.le_of_ble_eq_true rfl)) dT_moveCopied_32 ⟨Nat.zero_le _, Nat.zero_le _⟩) ?_
    refine W.eq (g2 := F0 m 35 ls [.int (enc (fnd T.O v 1 T.w))]) rfl ?_
    refine lv_istore (lv' := [(5, .int (enc (fnd T.O v 1 T.w))), (4, .int (-1)), (0, .ref (ad 0)), (1, .int v), (2, .long f)]) hx hb dT_moveCopied_35 hl (by decide) rfl (fun ls hl => ?_)
    refine lv_iconst (v := nI 0) hx hb dT_moveCopied_37 (by decide) ?_
    refine lv_istore (lv' := [(6, .int (nI 0)), (5, .int (enc (fnd T.O v 1 T.w))), (4, .int (-1)), (0, .ref (ad 0)), (1, .int v), (2, .long f)]) hx hb dT_moveCopied_38 hl (by decide) rfl (fun ls hl => ?_)
    rcases hi9 : fnd T.O v 1 T.w with _ | i
    · rw [hi9] at hl
      have hl : lv_has ls 7 [(6, .int (nI 0)), (5, .int (-1)), (4, .int (-1)), (0, .ref (ad 0)), (1, .int v), (2, .long f)] := hl
      refine lv_iload hx hb dT_moveCopied_40 (lv_at hl 1 rfl) ?_
      refine lv_iconst (v := (-1)) hx hb dT_moveCopied_42 (by decide) ?_
      refine lv_icmp_eq (tgt := 81) hx hb dT_moveCopied_43 (by decide) (fun hz => ?_) (fun hz => ?_)
      · exact W.vret hx hb hr (fun t ht hW => ⟨rfl, by rw [ht]; exact (by rw [show mcM T v f = T.S by simp only [mcM, ho, hi9]]; exact hP), hS.F ht⟩) hS.2.2 dT_moveCopied_81
      · exact absurd rfl hz
    · rw [hi9] at hl
      have hl : lv_has ls 7 [(6, .int (nI 0)), (5, .int (nI i)), (4, .int (-1)), (0, .ref (ad 0)), (1, .int v), (2, .long f)] := hl
      have hi8 := fnd_lt hi9
      have loop40 : ∀ (n : Nat) (j : Nat) (S : Nat → Int64) (H : Heap) (locs : List Loc) (ls : Array Slot), (j + n = T.h + 1) → (mcL T.C i f j n S = mcL T.C i f 0 (T.h + 1) T.S) → va_P (dC, dI) vwCl (TW ad k (ts T.C T.I T.O T.G S T.w T.h T.d)) H → va_D A (TW ad k (ts T.C T.I T.O T.G S T.w T.h T.d)) → va_S A s.heap H locs → lv_has ls 7 [(6, .int (nI j)), (5, .int (nI i)), (4, .int (-1)), (0, .ref (ad 0)), (1, .int v), (2, .long f)] → W p l e (headSpec wT_moveCopied ({ frames := 1, cells := 0, slots := 0, locals := 22 })).room s m ([.ref (ad 0), .int v, .long f] : List Value).toArray below meth c H locs 0 0 (MQ below (wQ none (dC, dI) vwCl (TW ad k (ts T.C T.I T.O T.G (mcM T v f) T.w T.h T.d)) A) ([.ref (ad 0), .int v, .long f] : List Value).toArray s 0 0 A) (F0 m 40 ls []) := by
        intro n
        induction n with
        | zero =>
          intro j S H locs ls hn hq hP hD hS hl
          refine lv_iload hx hb dT_moveCopied_40 (lv_at hl 1 rfl) ?_
          refine lv_iconst (v := (-1)) hx hb dT_moveCopied_42 (by decide) ?_
          refine lv_icmp_eq (tgt := 81) hx hb dT_moveCopied_43 (by decide) (fun hz => ?_) (fun hz => ?_)
          · exact absurd hz (enc_some (by omega))
          · refine lv_iload hx hb dT_moveCopied_46 (lv_at hl 0 rfl) ?_
            refine lv_aload_n hx hb dT_moveCopied_48 rfl (lv_at hl 3 rfl) ?_
            refine va_get (D := (dC, dI)) (ci := 0) (v := .int (nI T.h)) (C := RT) (T := FT) (N := 8) hx hb hta iT hown hK hP 0 rfl rfl 6 (by decide) (hta _ m_34) (fun _ h9 => h9) rfl dT_moveCopied_49 ?_
            refine ni_gt (tgt := 81) hx hb dT_moveCopied_52 (by decide) (by omega) (by omega) (fun c_2 => ?_) (fun c_2 => ?_)
            · exact W.vret hx hb hr (fun t ht hW => ⟨rfl, by rw [ht]; exact (by rw [show mcM T v f = S by (simp only [mcM, ho, hi9]; exact hq.symm)]; exact hP), hS.F ht⟩) hS.2.2 dT_moveCopied_81
            · exfalso; omega
        | succ n ih =>
          intro j S H locs ls hn hq hP hD hS hl
          refine lv_iload hx hb dT_moveCopied_40 (lv_at hl 1 rfl) ?_
          refine lv_iconst (v := (-1)) hx hb dT_moveCopied_42 (by decide) ?_
          refine lv_icmp_eq (tgt := 81) hx hb dT_moveCopied_43 (by decide) (fun hz => ?_) (fun hz => ?_)
          · exact absurd hz (enc_some (by omega))
          · refine lv_iload hx hb dT_moveCopied_46 (lv_at hl 0 rfl) ?_
            refine lv_aload_n hx hb dT_moveCopied_48 rfl (lv_at hl 3 rfl) ?_
            refine va_get (D := (dC, dI)) (ci := 0) (v := .int (nI T.h)) (C := RT) (T := FT) (N := 8) hx hb hta iT hown hK hP 0 rfl rfl 6 (by decide) (hta _ m_34) (fun _ h9 => h9) rfl dT_moveCopied_49 ?_
            refine ni_gt (tgt := 81) hx hb dT_moveCopied_52 (by decide) (by omega) (by omega) (fun c_3 => ?_) (fun c_3 => ?_)
            · exfalso; omega
            · refine lv_aload_n hx hb dT_moveCopied_55 rfl (lv_at hl 3 rfl) ?_
              refine va_get (D := (dC, dI)) (ci := 0) (v := .ref (ad 5)) (C := RT) (T := FT) (N := 8) hx hb hta iT hown hK hP 0 rfl rfl 4 (by decide) (hta _ m_31) (fun _ h9 => h9) rfl dT_moveCopied_56 ?_
              refine lv_iload hx hb dT_moveCopied_59 (lv_at hl 0 rfl) ?_
              refine lv_dup2_11 hx hb dT_moveCopied_61 rfl rfl ?_
              refine na_lald hx hb hK hP 5 4 rfl rfl (i := j) (by omega) (by decide) dT_moveCopied_62 ?_
              refine lv_aload_n hx hb dT_moveCopied_63 rfl (lv_at hl 3 rfl) ?_
              refine lv_iload hx hb dT_moveCopied_64 (lv_at hl 0 rfl) ?_
              refine lv_iload hx hb dT_moveCopied_66 (lv_at hl 1 rfl) ?_
              refine rd_call (va_runV (As := [.int (nI j), .int (nI i)]) (rest := [.long (S j), .int (nI j), .ref (ad 5)]) ⟨hx, hb, hml, hown, hta⟩ (c_T_cell l dC dI ad k (ts T.C T.I T.O T.G S T.w T.h T.d) j i (by first | omega | exact hw | exact hh)) (cwV 2 hta (gV m_123 m_125 mp_4 m_2 m_126) rfl rfl rfl (by decide +kernel) ⟨Nat.le_of_ble_eq_true rfl, Nat.le_of_ble_eq_true rfl⟩) (rd_V xT_ok trivial hK hP (ci := 0) (q0 := 0) rfl rfl) rfl rfl hl.1 rfl (lv_room (Nat.le_of_ble_eq_true rfl)) dT_moveCopied_68 ⟨Nat.zero_le _, Nat.zero_le _⟩) ?_
              refine W.eq (g2 := F0 m 71 ls [.long (T.C (j * 13 + i)), .long (S j), .int (nI j), .ref (ad 5)]) rfl ?_
              refine lv_lload_n hx hb dT_moveCopied_71 rfl (lv_at hl 5 rfl) ?_
              refine lv_lmul hx hb dT_moveCopied_72 ?_
              refine lv_lsub hx hb dT_moveCopied_73 ?_
              refine na_last hx hb hK hP hD hS 5 4 rfl rfl (i := j) (x := (S j) - ((T.C (j * 13 + i)) * f)) (by omega) (by decide) dT_moveCopied_74 (fun H locs hP hD hS => ?_)
              have hP : va_P (dC, dI) vwCl (TW ad k (ts T.C T.I T.O T.G (vp_updL S j ((S j) - ((T.C (j * 13 + i)) * f))) T.w T.h T.d)) H := hP
              have hD : va_D A (TW ad k (ts T.C T.I T.O T.G (vp_updL S j ((S j) - ((T.C (j * 13 + i)) * f))) T.w T.h T.d)) := hD
              refine lv_iinc (v := nI (j + 1)) (lv' := [(6, .int (nI (j + 1))), (5, .int (nI i)), (4, .int (-1)), (0, .ref (ad 0)), (1, .int v), (2, .long f)]) hx hb dT_moveCopied_75 hl (k := 0) rfl (nI_add j 1) (by decide) rfl (fun ls hl => ?_)
              refine lv_goto (tgt := 40) hx hb dT_moveCopied_78 (by decide) ?_
              exact ih (j + 1) (vp_updL S j ((S j) - ((T.C (j * 13 + i)) * f))) H locs ls (by omega) (by rw [← hq]; rfl) hP hD hS (lv_sub hl [0, 1, 2, 3, 4, 5] rfl)
      exact loop40 (T.h + 1) 0 T.S s.heap [] ls (by omega) rfl hP hD hS (lv_sub hl [0, 1, 2, 3, 4, 5] rfl)
  · rw [ho] at hl
    have hl : lv_has ls 7 [(4, .int (nI j_1)), (0, .ref (ad 0)), (1, .int v), (2, .long f)] := hl
    have hj_1 := fnd_lt ho
    refine lv_aload_n hx hb dT_moveCopied_13 rfl (lv_at hl 1 rfl) ?_
    refine va_get (D := (dC, dI)) (ci := 0) (v := .ref (ad 5)) (C := RT) (T := FT) (N := 8) hx hb hta iT hown hK hP 0 rfl rfl 4 (by decide) (hta _ m_31) (fun _ h9 => h9) rfl dT_moveCopied_14 ?_
    refine lv_iload hx hb dT_moveCopied_17 (lv_at hl 0 rfl) ?_
    refine lv_dup2_11 hx hb dT_moveCopied_19 rfl rfl ?_
    refine na_lald hx hb hK hP 5 4 rfl rfl (i := j_1) (by omega) (by decide) dT_moveCopied_20 ?_
    refine lv_aload_n hx hb dT_moveCopied_21 rfl (lv_at hl 1 rfl) ?_
    refine va_get (D := (dC, dI)) (ci := 0) (v := .long T.d) (C := RT) (T := FT) (N := 8) hx hb hta iT hown hK hP 0 rfl rfl 7 (by decide) (hta _ m_36) (fun _ h9 => h9) rfl dT_moveCopied_22 ?_
    refine lv_lload_n hx hb dT_moveCopied_25 rfl (lv_at hl 3 rfl) ?_
    refine lv_lmul hx hb dT_moveCopied_26 ?_
    refine lv_ladd hx hb dT_moveCopied_27 ?_
    refine na_last hx hb hK hP hD hS 5 4 rfl rfl (i := j_1) (x := (T.S j_1) + (T.d * f)) (by omega) (by decide) dT_moveCopied_28 (fun H locs hP hD hS => ?_)
    have hP : va_P (dC, dI) vwCl (TW ad k (ts T.C T.I T.O T.G (vp_updL T.S j_1 ((T.S j_1) + (T.d * f))) T.w T.h T.d)) H := hP
    have hD : va_D A (TW ad k (ts T.C T.I T.O T.G (vp_updL T.S j_1 ((T.S j_1) + (T.d * f))) T.w T.h T.d)) := hD
    exact W.vret hx hb hr (fun t ht hW => ⟨rfl, by rw [ht]; exact (by simpa only [mcM, ho] using hP), hS.F ht⟩) hS.2.2 dT_moveCopied_29

set_option maxHeartbeats 4000000 in
set_option maxRecDepth 100000 in
theorem c_T_takeCopiedStarts (l : Launch) (dC : Nat → ClassId) (dI : Nat → Nat → Nat) (ad : Nat → Nat) (k : Nat → ClassId) (T : TS) (sz : Nat)  (hh : T.h ≤ 24) : Met l yT_takeCopiedStarts wT_takeCopiedStarts ({ frames := 1, cells := 0, slots := 0, locals := 24 }) (wPc [.ref (ad 0)] sz (dC, dI) vwCl (TW ad k T) (TK k) xT) (wQ (some (.int (bI (allF T.S 0 (T.h + 1))))) (dC, dI) vwCl (TW ad k (ts (if allF T.S 0 (T.h + 1) then tkL T.S 0 (T.h + 1) T.C else T.C) T.I T.O T.G T.S T.w T.h T.d)) (va_A (TW ad k T) sz)) 0 0 (va_A (TW ad k T) sz) := by
  refine Met.ofW (cc := bT_takeCopiedStarts) (maxL := 2) (ret := (some .boolean)) (by decide) rfl ?_
  intro p e s m args below meth c s₁ B hml hv
  obtain ⟨rfl, hsz, hP, hK, hD0, hX⟩ := hv
  have hx := B.exec
  have hb := B.bytes
  have hr := B.returns
  have hts := atoms_spec (ws := wT_takeCopiedStarts) B.pre
  have hta : ∀ w ∈ AW, w.before _ s = true := fun w h => hts w (List.mem_cons_of_mem _ h)
  have hown : s.vm.findClass RT = some m.cls := findClass_of_methodNamed B.named
  have hlocks := B.notSynchronized
  subst hsz
  have hD := hD0.self (sz := s.heap.size)
  generalize hAe : va_A (TW ad k T) s.heap.size = A at hD ⊢
  have hA : ∀ q : Nat, s.heap.size ≤ q → A q := fun q h => by rw [← hAe]; exact Or.inr h
  have hS : va_S A s.heap s.heap [] := va_S.rf
  have hl := lv_entry ([.ref (ad 0)]) (n := 2) (Nat.le_of_ble_eq_true rfl)
  rw [lg_entry_eq]
  generalize (lg_sl ([.ref (ad 0)]) ++ List.replicate (2 - (lg_sl ([.ref (ad 0)])).length) Slot.unset).toArray = ls at hl ⊢
  have hl : lv_has ls 2 [(0, .ref (ad 0))] := hl
  refine lv_iconst (v := nI 0) hx hb dT_takeCopiedStarts_0 (by decide) ?_
  refine lv_istore_n (lv' := [(1, .int (nI 0)), (0, .ref (ad 0))]) hx hb dT_takeCopiedStarts_1 rfl hl (by decide) rfl (fun ls hl => ?_)
  have loop2 : ∀ (n : Nat) (i : Nat) (ls : Array Slot), (i + n = T.h + 1) → (allF T.S i n = allF T.S 0 (T.h + 1)) → lv_has ls 2 [(1, .int (nI i)), (0, .ref (ad 0))] → W p l e (headSpec wT_takeCopiedStarts ({ frames := 1, cells := 0, slots := 0, locals := 24 })).room s m ([.ref (ad 0)] : List Value).toArray below meth c s.heap [] 0 0 (MQ below (wQ (some (.int (bI (allF T.S 0 (T.h + 1))))) (dC, dI) vwCl (TW ad k (ts (if allF T.S 0 (T.h + 1) then tkL T.S 0 (T.h + 1) T.C else T.C) T.I T.O T.G T.S T.w T.h T.d)) A) ([.ref (ad 0)] : List Value).toArray s 0 0 A) (F0 m 2 ls []) := by
    intro n
    induction n with
    | zero =>
      intro i ls hn hq hl
      refine lv_iload_n hx hb dT_takeCopiedStarts_2 rfl (lv_at hl 0 rfl) ?_
      refine lv_aload_n hx hb dT_takeCopiedStarts_3 rfl (lv_at hl 1 rfl) ?_
      refine va_get (D := (dC, dI)) (ci := 0) (v := .int (nI T.h)) (C := RT) (T := FT) (N := 8) hx hb hta iT hown hK hP 0 rfl rfl 6 (by decide) (hta _ m_34) (fun _ h9 => h9) rfl dT_takeCopiedStarts_4 ?_
      refine ni_gt (tgt := 30) hx hb dT_takeCopiedStarts_7 (by decide) (by omega) (by omega) (fun c_1 => ?_) (fun c_1 => ?_)
      · refine lv_iconst (v := nI 0) hx hb dT_takeCopiedStarts_30 (by decide) ?_
        refine lv_istore_n (lv' := [(1, .int (nI 0)), (0, .ref (ad 0))]) hx hb dT_takeCopiedStarts_31 rfl hl (by decide) rfl (fun ls hl => ?_)
        have loop32 : ∀ (n : Nat) (i : Nat) (C : Nat → Int64) (H : Heap) (locs : List Loc) (ls : Array Slot), (i + n = T.h + 1) → (tkL T.S i n C = tkL T.S 0 (T.h + 1) T.C) → va_P (dC, dI) vwCl (TW ad k (ts C T.I T.O T.G T.S T.w T.h T.d)) H → va_D A (TW ad k (ts C T.I T.O T.G T.S T.w T.h T.d)) → va_S A s.heap H locs → lv_has ls 2 [(1, .int (nI i)), (0, .ref (ad 0))] → W p l e (headSpec wT_takeCopiedStarts ({ frames := 1, cells := 0, slots := 0, locals := 24 })).room s m ([.ref (ad 0)] : List Value).toArray below meth c H locs 0 0 (MQ below (wQ (some (.int (bI (allF T.S 0 (T.h + 1))))) (dC, dI) vwCl (TW ad k (ts (if allF T.S 0 (T.h + 1) then tkL T.S 0 (T.h + 1) T.C else T.C) T.I T.O T.G T.S T.w T.h T.d)) A) ([.ref (ad 0)] : List Value).toArray s 0 0 A) (F0 m 32 ls []) := by
          intro n
          induction n with
          | zero =>
            intro i C H locs ls hn hq2 hP hD hS hl
            refine lv_iload_n hx hb dT_takeCopiedStarts_32 rfl (lv_at hl 0 rfl) ?_
            refine lv_aload_n hx hb dT_takeCopiedStarts_33 rfl (lv_at hl 1 rfl) ?_
            refine va_get (D := (dC, dI)) (ci := 0) (v := .int (nI T.h)) (C := RT) (T := FT) (N := 8) hx hb hta iT hown hK hP 0 rfl rfl 6 (by decide) (hta _ m_34) (fun _ h9 => h9) rfl dT_takeCopiedStarts_34 ?_
            refine ni_gt (tgt := 58) hx hb dT_takeCopiedStarts_37 (by decide) (by omega) (by omega) (fun c_2 => ?_) (fun c_2 => ?_)
            · refine lv_iconst (v := 1) hx hb dT_takeCopiedStarts_58 (by decide) ?_
              exact W.zret (v := 1) hx hb hr (rfl) (fun t ht hW => ⟨congrArg (fun z => Outcome.returned (some (.int z))) (by rw [← hq]; rfl), by rw [ht]; exact (by rw [show (if allF T.S 0 (T.h + 1) then tkL T.S 0 (T.h + 1) T.C else T.C) = C by (rw [← hq]; exact hq2.symm)]; exact hP), hS.F ht⟩) hS.2.2 dT_takeCopiedStarts_59
            · exfalso; omega
          | succ n ih =>
            intro i C H locs ls hn hq2 hP hD hS hl
            refine lv_iload_n hx hb dT_takeCopiedStarts_32 rfl (lv_at hl 0 rfl) ?_
            refine lv_aload_n hx hb dT_takeCopiedStarts_33 rfl (lv_at hl 1 rfl) ?_
            refine va_get (D := (dC, dI)) (ci := 0) (v := .int (nI T.h)) (C := RT) (T := FT) (N := 8) hx hb hta iT hown hK hP 0 rfl rfl 6 (by decide) (hta _ m_34) (fun _ h9 => h9) rfl dT_takeCopiedStarts_34 ?_
            refine ni_gt (tgt := 58) hx hb dT_takeCopiedStarts_37 (by decide) (by omega) (by omega) (fun c_3 => ?_) (fun c_3 => ?_)
            · exfalso; omega
            · refine lv_aload_n hx hb dT_takeCopiedStarts_40 rfl (lv_at hl 1 rfl) ?_
              refine lv_iload_n hx hb dT_takeCopiedStarts_41 rfl (lv_at hl 0 rfl) ?_
              refine lv_iconst (v := nI 0) hx hb dT_takeCopiedStarts_42 (by decide) ?_
              refine lv_aload_n hx hb dT_takeCopiedStarts_43 rfl (lv_at hl 1 rfl) ?_
              refine va_get (D := (dC, dI)) (ci := 0) (v := .ref (ad 5)) (C := RT) (T := FT) (N := 8) hx hb hta iT hown hK hP 0 rfl rfl 4 (by decide) (hta _ m_31) (fun _ h9 => h9) rfl dT_takeCopiedStarts_44 ?_
              refine lv_iload_n hx hb dT_takeCopiedStarts_47 rfl (lv_at hl 0 rfl) ?_
              refine na_lald hx hb hK hP 5 4 rfl rfl (i := i) (by omega) (by decide) dT_takeCopiedStarts_48 ?_
              refine wr_call (X := ([] : va_W)) (va_runV (As := [.int (nI i), .int (nI 0), .long (T.S i)]) (rest := []) ⟨hx, hb, hml, hown, hta⟩ (c_T_setCell l dC dI ad k (ts C T.I T.O T.G T.S T.w T.h T.d) H.size i 0 (T.S i) (by first | omega | exact hw | exact hh)) (cwV 3 hta (gV m_240 m_242 mp_8 m_2 m_243) rfl rfl rfl (by decide +kernel) ⟨Nat.le_of_ble_eq_true rfl, Nat.le_of_ble_eq_true rfl⟩) (wr_V xT_ok trivial hK hP hD (ci := 0) (q0 := 0) rfl rfl) rfl rfl hl.1 rfl (lv_room (Nat.le_of_ble_eq_true rfl)) dT_takeCopiedStarts_49 ⟨Nat.zero_le _, Nat.zero_le _⟩) hP hD hS hA rfl (fun H locs hP hD hS => ?_)
              have hP : va_P (dC, dI) vwCl (TW ad k (ts (vp_updL C (i * 13 + 0) (T.S i)) T.I T.O T.G T.S T.w T.h T.d)) H := hP
              have hD : va_D A (TW ad k (ts (vp_updL C (i * 13 + 0) (T.S i)) T.I T.O T.G T.S T.w T.h T.d)) := hD
              refine W.eq (g2 := F0 m 52 ls []) rfl ?_
              refine lv_iinc (v := nI (i + 1)) (lv' := [(1, .int (nI (i + 1))), (0, .ref (ad 0))]) hx hb dT_takeCopiedStarts_52 hl (k := 0) rfl (nI_add i 1) (by decide) rfl (fun ls hl => ?_)
              refine lv_goto (tgt := 32) hx hb dT_takeCopiedStarts_55 (by decide) ?_
              exact ih (i + 1) (vp_updL C (i * 13 + 0) (T.S i)) H locs ls (by omega) (by rw [← hq2]; rfl) hP hD hS (lv_sub hl [0, 1] rfl)
        exact loop32 (T.h + 1) 0 T.C s.heap [] ls (by omega) rfl hP hD hS (lv_sub hl [0, 1] rfl)
      · exfalso; omega
    | succ n ih =>
      intro i ls hn hq hl
      refine lv_iload_n hx hb dT_takeCopiedStarts_2 rfl (lv_at hl 0 rfl) ?_
      refine lv_aload_n hx hb dT_takeCopiedStarts_3 rfl (lv_at hl 1 rfl) ?_
      refine va_get (D := (dC, dI)) (ci := 0) (v := .int (nI T.h)) (C := RT) (T := FT) (N := 8) hx hb hta iT hown hK hP 0 rfl rfl 6 (by decide) (hta _ m_34) (fun _ h9 => h9) rfl dT_takeCopiedStarts_4 ?_
      refine ni_gt (tgt := 30) hx hb dT_takeCopiedStarts_7 (by decide) (by omega) (by omega) (fun c_4 => ?_) (fun c_4 => ?_)
      · exfalso; omega
      · refine lv_aload_n hx hb dT_takeCopiedStarts_10 rfl (lv_at hl 1 rfl) ?_
        refine va_get (D := (dC, dI)) (ci := 0) (v := .ref (ad 5)) (C := RT) (T := FT) (N := 8) hx hb hta iT hown hK hP 0 rfl rfl 4 (by decide) (hta _ m_31) (fun _ h9 => h9) rfl dT_takeCopiedStarts_11 ?_
        refine lv_iload_n hx hb dT_takeCopiedStarts_14 rfl (lv_at hl 0 rfl) ?_
        refine na_lald hx hb hK hP 5 4 rfl rfl (i := i) (by omega) (by decide) dT_takeCopiedStarts_15 ?_
        refine rd_call (va_runS (As := [.long (T.S i)]) (rest := []) ⟨hx, hb, hml, hown, hta⟩ (c_T_fits l dC dI ad k (T.S i)) (cwS 1 hta (gS m_350 m_351 m_2 m_352) rfl rfl rfl (by decide +kernel) ⟨Nat.le_of_ble_eq_true rfl, Nat.le_of_ble_eq_true rfl⟩) (rd_S xT_ok trivial (hK.sub [] rfl) va_P_nil) rfl rfl hl.1 rfl (lv_room (Nat.le_of_ble_eq_true rfl)) dT_takeCopiedStarts_16 ⟨Nat.zero_le _, Nat.zero_le _⟩) ?_
        refine W.eq (g2 := F0 m 19 ls [.int (bI (fits9 (T.S i)))]) rfl ?_
        refine lb_ne (tgt := 24) hx hb dT_takeCopiedStarts_19 (by decide) (fun hc => ?_) (fun hc => ?_)
        · refine lv_iinc (v := nI (i + 1)) (lv' := [(1, .int (nI (i + 1))), (0, .ref (ad 0))]) hx hb dT_takeCopiedStarts_24 hl (k := 0) rfl (nI_add i 1) (by decide) rfl (fun ls hl => ?_)
          refine lv_goto (tgt := 2) hx hb dT_takeCopiedStarts_27 (by decide) ?_
          exact ih (i + 1) ls (by omega) (by rw [← hq]; simp [allF, hc]) (lv_sub hl [0, 1] rfl)
        · refine lv_iconst (v := 0) hx hb dT_takeCopiedStarts_22 (by decide) ?_
          exact W.zret (v := 0) hx hb hr (rfl) (fun t ht hW => ⟨congrArg (fun z => Outcome.returned (some (.int z))) (by rw [← hq]; simp [allF, hc, bI]), by rw [ht]; exact (by rw [show (if allF T.S 0 (T.h + 1) then tkL T.S 0 (T.h + 1) T.C else T.C) = T.C by (rw [← hq]; simp [allF, hc])]; exact hP), hS.F ht⟩) hS.2.2 dT_takeCopiedStarts_23
  exact loop2 (T.h + 1) 0 ls (by omega) rfl (lv_sub hl [0, 1] rfl)

set_option maxHeartbeats 4000000 in
set_option maxRecDepth 100000 in
theorem c_T_tell (l : Launch) (dC : Nat → ClassId) (dI : Nat → Nat → Nat) (ad : Nat → Nat) (k : Nat → ClassId) (F : Nat → Int32) (T : TS) (sz : Nat) (f0 : Nat) (b : Int64) (hw : T.w ≤ 12) (hh : T.h ≤ 24) (hf : f0 + 12 ≤ 144) : Met l yT_tell wT_tell ({ frames := 2, cells := 0, slots := 0, locals := 48 }) (wPc [.ref (ad 0), .ref (ad 6), .int (nI f0), .long b] sz (dC, dI) vwCl (FW ad k F ++ TW ad k T) (FK k ++ TK k) xT) (wQ none (dC, dI) vwCl (FW ad k F ++ TW ad k (ts T.C T.I T.O (teM T F f0 b) T.S T.w T.h T.d)) (va_A (FW ad k F ++ TW ad k T) sz)) 0 0 (va_A (FW ad k F ++ TW ad k T) sz) := by
  refine Met.ofW (cc := bT_tell) (maxL := 6) (ret := none) (by decide) rfl ?_
  intro p e s m args below meth c s₁ B hml hv
  obtain ⟨rfl, hsz, hP, hK, hD0, hX⟩ := hv
  have hx := B.exec
  have hb := B.bytes
  have hr := B.returns
  have hts := atoms_spec (ws := wT_tell) B.pre
  have hta : ∀ w ∈ AW, w.before _ s = true := fun w h => hts w (List.mem_cons_of_mem _ h)
  have hown : s.vm.findClass RT = some m.cls := findClass_of_methodNamed B.named
  have hlocks := B.notSynchronized
  subst hsz
  have hD := hD0.self (sz := s.heap.size)
  generalize hAe : va_A (FW ad k F ++ TW ad k T) s.heap.size = A at hD ⊢
  have hA : ∀ q : Nat, s.heap.size ≤ q → A q := fun q h => by rw [← hAe]; exact Or.inr h
  have hS : va_S A s.heap s.heap [] := va_S.rf
  have hl := lv_entry ([.ref (ad 0), .ref (ad 6), .int (nI f0), .long b]) (n := 6) (Nat.le_of_ble_eq_true rfl)
  rw [lg_entry_eq]
  generalize (lg_sl ([.ref (ad 0), .ref (ad 6), .int (nI f0), .long b]) ++ List.replicate (6 - (lg_sl ([.ref (ad 0), .ref (ad 6), .int (nI f0), .long b])).length) Slot.unset).toArray = ls at hl ⊢
  have hl : lv_has ls 6 [(0, .ref (ad 0)), (1, .ref (ad 6)), (2, .int (nI f0)), (3, .long b)] := hl
  refine lv_aload_n hx hb dT_tell_0 rfl (lv_at hl 0 rfl) ?_
  refine va_get (D := (dC, dI)) (ci := 0) (v := .ref (ad 4)) (C := RT) (T := FT) (N := 8) hx hb hta iT hown hK hP 1 rfl rfl 3 (by decide) (hta _ m_30) (fun _ h9 => h9) rfl dT_tell_1 ?_
  refine lv_lconst (v := 0) hx hb dT_tell_4 (by decide) ?_
  refine wr_call (X := ([0, 1, 2, 3, 4, 6].filterMap (fun i => (FW ad k F ++ TW ad k T)[i]?))) (va_runS (As := [.ref (ad 4), .long 0]) (rest := []) ⟨hx, hb, hml, hown, hta⟩ (c_A_fill l dC dI (ad 4) (k 4) T.G s.heap.size 0) (va_cwS 2 hta (gA m_375 m_376 m_11 m_377) rfl rfl rfl (by decide +kernel) ⟨Nat.le_of_ble_eq_true rfl, Nat.le_of_ble_eq_true rfl⟩) (wr_S xT_ok trivial (hK.sub [4] rfl) (hP.sub [5] rfl) (hD.sub [5] (by decide) rfl)) rfl rfl hl.1 rfl (lv_room (Nat.le_of_ble_eq_true rfl)) dT_tell_5 ⟨Nat.zero_le _, Nat.zero_le _⟩) (hP.sub [0, 1, 2, 3, 4, 6, 5] rfl) (hD.sub [0, 1, 2, 3, 4, 6, 5] (by decide) rfl) hS hA rfl (fun H locs hP hD hS => ?_)
  have hP : va_P (dC, dI) vwCl (FW ad k F ++ TW ad k (ts T.C T.I T.O (fillL 0 0 13 T.G) T.S T.w T.h T.d)) H := hP.sub [0, 1, 2, 3, 4, 6, 5] rfl
  have hD : va_D A (FW ad k F ++ TW ad k (ts T.C T.I T.O (fillL 0 0 13 T.G) T.S T.w T.h T.d)) := hD.sub [0, 1, 2, 3, 4, 6, 5] (by decide) rfl
  refine W.eq (g2 := F0 m 8 ls []) rfl ?_
  refine lv_iconst (v := nI 0) hx hb dT_tell_8 (by decide) ?_
  refine lv_istore (lv' := [(5, .int (nI 0)), (0, .ref (ad 0)), (1, .ref (ad 6)), (2, .int (nI f0)), (3, .long b)]) hx hb dT_tell_9 hl (by decide) rfl (fun ls hl => ?_)
  have loop11 : ∀ (n : Nat) (j : Nat) (G : Nat → Int64) (H : Heap) (locs : List Loc) (ls : Array Slot), (j + n = T.w) → (teL T F f0 j n G = teL T F f0 0 T.w (fillL 0 0 13 T.G)) → va_P (dC, dI) vwCl (FW ad k F ++ TW ad k (ts T.C T.I T.O G T.S T.w T.h T.d)) H → va_D A (FW ad k F ++ TW ad k (ts T.C T.I T.O G T.S T.w T.h T.d)) → va_S A s.heap H locs → lv_has ls 6 [(5, .int (nI j)), (0, .ref (ad 0)), (1, .ref (ad 6)), (2, .int (nI f0)), (3, .long b)] → W p l e (headSpec wT_tell ({ frames := 2, cells := 0, slots := 0, locals := 48 })).room s m ([.ref (ad 0), .ref (ad 6), .int (nI f0), .long b] : List Value).toArray below meth c H locs 0 0 (MQ below (wQ none (dC, dI) vwCl (FW ad k F ++ TW ad k (ts T.C T.I T.O (teM T F f0 b) T.S T.w T.h T.d)) A) ([.ref (ad 0), .ref (ad 6), .int (nI f0), .long b] : List Value).toArray s 0 0 A) (F0 m 11 ls []) := by
    intro n
    induction n with
    | zero =>
      intro j G H locs ls hn hq hP hD hS hl
      refine lv_iload hx hb dT_tell_11 (lv_at hl 0 rfl) ?_
      refine lv_aload_n hx hb dT_tell_13 rfl (lv_at hl 1 rfl) ?_
      refine va_get (D := (dC, dI)) (ci := 0) (v := .int (nI T.w)) (C := RT) (T := FT) (N := 8) hx hb hta iT hown hK hP 1 rfl rfl 5 (by decide) (hta _ m_32) (fun _ h9 => h9) rfl dT_tell_14 ?_
      refine ni_ge (tgt := 39) hx hb dT_tell_17 (by decide) (by omega) (by omega) (fun c_1 => ?_) (fun c_1 => ?_)
      · refine lv_aload_n hx hb dT_tell_39 rfl (lv_at hl 1 rfl) ?_
        refine va_get (D := (dC, dI)) (ci := 0) (v := .ref (ad 4)) (C := RT) (T := FT) (N := 8) hx hb hta iT hown hK hP 1 rfl rfl 3 (by decide) (hta _ m_30) (fun _ h9 => h9) rfl dT_tell_40 ?_
        refine lv_iconst (v := nI 0) hx hb dT_tell_43 (by decide) ?_
        refine lv_dup2_11 hx hb dT_tell_44 rfl rfl ?_
        refine na_lald hx hb hK hP 5 4 rfl rfl (i := 0) (by omega) (by decide) dT_tell_45 ?_
        refine lv_aload_n hx hb dT_tell_46 rfl (lv_at hl 1 rfl) ?_
        refine va_get (D := (dC, dI)) (ci := 0) (v := .long T.d) (C := RT) (T := FT) (N := 8) hx hb hta iT hown hK hP 1 rfl rfl 7 (by decide) (hta _ m_36) (fun _ h9 => h9) rfl dT_tell_47 ?_
        refine lv_lload_n hx hb dT_tell_50 rfl (lv_at hl 4 rfl) ?_
        refine lv_lmul hx hb dT_tell_51 ?_
        refine lv_lsub hx hb dT_tell_52 ?_
        refine na_last hx hb hK hP hD hS 5 4 rfl rfl (i := 0) (x := (G 0) - (T.d * b)) (by omega) (by decide) dT_tell_53 (fun H locs hP hD hS => ?_)
        have hP : va_P (dC, dI) vwCl (FW ad k F ++ TW ad k (ts T.C T.I T.O (vp_updL G 0 ((G 0) - (T.d * b))) T.S T.w T.h T.d)) H := hP
        have hD : va_D A (FW ad k F ++ TW ad k (ts T.C T.I T.O (vp_updL G 0 ((G 0) - (T.d * b))) T.S T.w T.h T.d)) := hD
        exact W.vret hx hb hr (fun t ht hW => ⟨rfl, by rw [ht]; exact (by have hq3 : G = teL T F f0 0 T.w (fillL 0 0 13 T.G) := hq; rw [hq3] at hP; exact hP), hS.F ht⟩) hS.2.2 dT_tell_54
      · exfalso; omega
    | succ n ih =>
      intro j G H locs ls hn hq hP hD hS hl
      refine lv_iload hx hb dT_tell_11 (lv_at hl 0 rfl) ?_
      refine lv_aload_n hx hb dT_tell_13 rfl (lv_at hl 1 rfl) ?_
      refine va_get (D := (dC, dI)) (ci := 0) (v := .int (nI T.w)) (C := RT) (T := FT) (N := 8) hx hb hta iT hown hK hP 1 rfl rfl 5 (by decide) (hta _ m_32) (fun _ h9 => h9) rfl dT_tell_14 ?_
      refine ni_ge (tgt := 39) hx hb dT_tell_17 (by decide) (by omega) (by omega) (fun c_2 => ?_) (fun c_2 => ?_)
      · exfalso; omega
      · refine lv_aload_n hx hb dT_tell_20 rfl (lv_at hl 1 rfl) ?_
        refine lv_iload hx hb dT_tell_21 (lv_at hl 0 rfl) ?_
        refine lv_aload_n hx hb dT_tell_23 rfl (lv_at hl 2 rfl) ?_
        refine lv_iload_n hx hb dT_tell_24 rfl (lv_at hl 3 rfl) ?_
        refine lv_iload hx hb dT_tell_25 (lv_at hl 0 rfl) ?_
        refine lv_iadd hx hb dT_tell_27 ?_
        refine st_i (y := nI (f0 + j)) (nI_add _ _) ?_
        refine na_iald hx hb hK hP 0 0 rfl rfl (i := (f0 + j)) (by omega) (by decide) dT_tell_28 ?_
        refine lv_i2l (v := (F (f0 + j)).toInt64) hx hb dT_tell_29 rfl ?_
        refine wr_call (X := FW ad k F) (va_runV (As := [.int (nI j), .long ((F (f0 + j)).toInt64)]) (rest := []) ⟨hx, hb, hml, hown, hta⟩ (c_T_tellColumn l dC dI ad k (ts T.C T.I T.O G T.S T.w T.h T.d) H.size (nI j) ((F (f0 + j)).toInt64) (by first | omega | exact hw | exact hh) (by first | omega | exact hw | exact hh)) (cwV 2 hta (gV m_378 m_380 mp_24 m_2 m_381) rfl rfl rfl (by decide +kernel) ⟨Nat.le_of_ble_eq_true rfl, Nat.le_of_ble_eq_true rfl⟩) (wr_V xT_ok trivial (hK.sub [1, 2, 3, 4, 5] rfl) (hP.sub [1, 2, 3, 4, 5, 6] rfl) (hD.sub [1, 2, 3, 4, 5, 6] (by decide) rfl) (ci := 0) (q0 := 0) rfl rfl) rfl rfl hl.1 rfl (lv_room (Nat.le_of_ble_eq_true rfl)) dT_tell_30 ⟨Nat.zero_le _, Nat.zero_le _⟩) hP hD hS hA rfl (fun H locs hP hD hS => ?_)
        have hP : va_P (dC, dI) vwCl (FW ad k F ++ TW ad k (ts T.C T.I T.O (tcM (ts T.C T.I T.O G T.S T.w T.h T.d) (nI j) ((F (f0 + j)).toInt64) G) T.S T.w T.h T.d)) H := hP
        have hD : va_D A (FW ad k F ++ TW ad k (ts T.C T.I T.O (tcM (ts T.C T.I T.O G T.S T.w T.h T.d) (nI j) ((F (f0 + j)).toInt64) G) T.S T.w T.h T.d)) := hD
        refine W.eq (g2 := F0 m 33 ls []) rfl ?_
        refine lv_iinc (v := nI (j + 1)) (lv' := [(5, .int (nI (j + 1))), (0, .ref (ad 0)), (1, .ref (ad 6)), (2, .int (nI f0)), (3, .long b)]) hx hb dT_tell_33 hl (k := 0) rfl (nI_add j 1) (by decide) rfl (fun ls hl => ?_)
        refine lv_goto (tgt := 11) hx hb dT_tell_36 (by decide) ?_
        exact ih (j + 1) (tcM (ts T.C T.I T.O G T.S T.w T.h T.d) (nI j) ((F (f0 + j)).toInt64) G) H locs ls (by omega) (by rw [← hq]; rfl) hP hD hS (lv_sub hl [0, 1, 2, 3, 4] rfl)
  exact loop11 T.w 0 (fillL 0 0 13 T.G) H locs ls (by omega) rfl hP hD hS (lv_sub hl [0, 1, 2, 3, 4] rfl)
end
section
set_option maxHeartbeats 4000000 in
set_option maxRecDepth 100000 in
theorem c_P_factorPlace (l : Launch) (dC : Nat → ClassId) (dI : Nat → Nat → Nat) (ad : Nat → Nat) (k : Nat → ClassId) (r j : Nat)  : Met l yP_factorPlace wP_factorPlace ({ frames := 0, cells := 0, slots := 0, locals := 0 }) (rPc [.int (nI r), .int (nI j)] (dC, dI) vwCl ([]) ([]) xT) (rQ (some (.int (nI (r * 12 + j))))) 0 0 (fun _ => False) := by
  refine Met.ofW (cc := bP_factorPlace) (maxL := 2) (ret := (some .int)) (by decide) rfl ?_
  intro p e s m args below meth c s₁ B hml hv
  obtain ⟨rfl, hP, hK, hX⟩ := hv
  have hx := B.exec
  have hb := B.bytes
  have hr := B.returns
  have hts := atoms_spec (ws := wP_factorPlace) B.pre
  have hta : ∀ w ∈ AW, w.before _ s = true := fun w h => hts w (List.mem_cons_of_mem _ h)
  have hown : s.vm.findClass RP = some m.cls := findClass_of_methodNamed B.named
  have hlocks := B.notSynchronized
  have hl := lv_entry ([.int (nI r), .int (nI j)]) (n := 2) (Nat.le_of_ble_eq_true rfl)
  rw [lg_entry_eq]
  generalize (lg_sl ([.int (nI r), .int (nI j)]) ++ List.replicate (2 - (lg_sl ([.int (nI r), .int (nI j)])).length) Slot.unset).toArray = ls at hl ⊢
  have hl : lv_has ls 2 [(0, .int (nI r)), (1, .int (nI j))] := hl
  refine lv_iload_n hx hb dP_factorPlace_0 rfl (lv_at hl 0 rfl) ?_
  refine lv_bipush (v := nI 12) hx hb dP_factorPlace_1 (by decide) ?_
  refine lv_imul hx hb dP_factorPlace_3 ?_
  refine st_i (y := nI (r * 12)) (pk_mul _ _) ?_
  refine lv_iload_n hx hb dP_factorPlace_4 rfl (lv_at hl 1 rfl) ?_
  refine lv_iadd hx hb dP_factorPlace_5 ?_
  refine st_i (y := nI ((r * 12) + j)) (nI_add _ _) ?_
  exact W.iret (v := nI ((r * 12) + j)) hx hb hr (fun t ht hW => ⟨rfl, ht⟩) (fun q h => nomatch h) dP_factorPlace_6

set_option maxHeartbeats 4000000 in
set_option maxRecDepth 100000 in
theorem c_P_rowsOfWeek (l : Launch) (dC : Nat → ClassId) (dI : Nat → Nat → Nat) (ad : Nat → Nat) (k : Nat → ClassId) (P : PS) (F : Nat → Int32) (T : TS) (v : Int32) (hro : P.rows ≤ 12) : Met l yP_rowsOfWeek wP_rowsOfWeek ({ frames := 0, cells := 0, slots := 0, locals := 0 }) (rPc [.ref (ad 7), .int v] (dC, dI) vwCl (PW ad k P ++ (FW ad k F ++ TW ad k T)) (PK k ++ (FK k ++ TK k)) nW) (rQ (some (.int (nI (rwL P.V v 0 P.rows 0))))) 0 0 (fun _ => False) := by
  refine Met.ofW (cc := bP_rowsOfWeek) (maxL := 4) (ret := (some .int)) (by decide) rfl ?_
  intro p e s m args below meth c s₁ B hml hv
  obtain ⟨rfl, hP, hK, hX⟩ := hv
  have hx := B.exec
  have hb := B.bytes
  have hr := B.returns
  have hts := atoms_spec (ws := wP_rowsOfWeek) B.pre
  have hta : ∀ w ∈ AW, w.before _ s = true := fun w h => hts w (List.mem_cons_of_mem _ h)
  have hown : s.vm.findClass RP = some m.cls := findClass_of_methodNamed B.named
  have hlocks := B.notSynchronized
  have hl := lv_entry ([.ref (ad 7), .int v]) (n := 4) (Nat.le_of_ble_eq_true rfl)
  rw [lg_entry_eq]
  generalize (lg_sl ([.ref (ad 7), .int v]) ++ List.replicate (4 - (lg_sl ([.ref (ad 7), .int v])).length) Slot.unset).toArray = ls at hl ⊢
  have hl : lv_has ls 4 [(0, .ref (ad 7)), (1, .int v)] := hl
  refine lv_iconst (v := nI 0) hx hb dP_rowsOfWeek_0 (by decide) ?_
  refine lv_istore_n (lv' := [(2, .int (nI 0)), (0, .ref (ad 7)), (1, .int v)]) hx hb dP_rowsOfWeek_1 rfl hl (by decide) rfl (fun ls hl => ?_)
  refine lv_iconst (v := nI 0) hx hb dP_rowsOfWeek_2 (by decide) ?_
  refine lv_istore_n (lv' := [(3, .int (nI 0)), (2, .int (nI 0)), (0, .ref (ad 7)), (1, .int v)]) hx hb dP_rowsOfWeek_3 rfl hl (by decide) rfl (fun ls hl => ?_)
  have loop4 : ∀ (n : Nat) (i : Nat) (f : Nat) (ls : Array Slot), (i + n = P.rows) → (rwL P.V v i n f = rwL P.V v 0 P.rows 0) → lv_has ls 4 [(3, .int (nI i)), (2, .int (nI f)), (0, .ref (ad 7)), (1, .int v)] → W p l e (headSpec wP_rowsOfWeek ({ frames := 0, cells := 0, slots := 0, locals := 0 })).room s m ([.ref (ad 7), .int v] : List Value).toArray below meth c s.heap [] 0 0 (MQ below (rQ (some (.int (nI (rwL P.V v 0 P.rows 0))))) ([.ref (ad 7), .int v] : List Value).toArray s 0 0 (fun _ => False)) (F0 m 4 ls []) := by
    intro n
    induction n with
    | zero =>
      intro i f ls hn hq hl
      refine lv_iload_n hx hb dP_rowsOfWeek_4 rfl (lv_at hl 0 rfl) ?_
      refine lv_aload_n hx hb dP_rowsOfWeek_5 rfl (lv_at hl 2 rfl) ?_
      refine va_get (D := (dC, dI)) (ci := 1) (v := .int (nI P.rows)) (C := RP) (T := FP) (N := 12) hx hb hta iP hown hK hP 0 rfl rfl 7 (by decide) (hta _ m_70) (fun _ h9 => h9) rfl dP_rowsOfWeek_6 ?_
      refine ni_ge (tgt := 31) hx hb dP_rowsOfWeek_9 (by decide) (by omega) (by omega) (fun c_1 => ?_) (fun c_1 => ?_)
      · refine lv_iload_n hx hb dP_rowsOfWeek_31 rfl (lv_at hl 1 rfl) ?_
        exact W.iret (v := nI f) hx hb hr (fun t ht hW => ⟨congrArg (fun z => Outcome.returned (some (.int z))) (by rw [← hq]; rfl), ht⟩) (fun q h => nomatch h) dP_rowsOfWeek_32
      · exfalso; omega
    | succ n ih =>
      intro i f ls hn hq hl
      refine lv_iload_n hx hb dP_rowsOfWeek_4 rfl (lv_at hl 0 rfl) ?_
      refine lv_aload_n hx hb dP_rowsOfWeek_5 rfl (lv_at hl 2 rfl) ?_
      refine va_get (D := (dC, dI)) (ci := 1) (v := .int (nI P.rows)) (C := RP) (T := FP) (N := 12) hx hb hta iP hown hK hP 0 rfl rfl 7 (by decide) (hta _ m_70) (fun _ h9 => h9) rfl dP_rowsOfWeek_6 ?_
      refine ni_ge (tgt := 31) hx hb dP_rowsOfWeek_9 (by decide) (by omega) (by omega) (fun c_2 => ?_) (fun c_2 => ?_)
      · exfalso; omega
      · refine lv_aload_n hx hb dP_rowsOfWeek_12 rfl (lv_at hl 2 rfl) ?_
        refine va_get (D := (dC, dI)) (ci := 1) (v := .ref (ad 9)) (C := RP) (T := FP) (N := 12) hx hb hta iP hown hK hP 0 rfl rfl 2 (by decide) (hta _ m_65) (fun _ h9 => h9) rfl dP_rowsOfWeek_13 ?_
        refine lv_iload_n hx hb dP_rowsOfWeek_16 rfl (lv_at hl 0 rfl) ?_
        refine na_iald hx hb hK hP 2 1 rfl rfl (i := i) (by omega) (by decide) dP_rowsOfWeek_17 ?_
        refine lv_iload_n hx hb dP_rowsOfWeek_18 rfl (lv_at hl 3 rfl) ?_
        refine lv_icmp_ne (tgt := 25) hx hb dP_rowsOfWeek_19 (by decide) (fun hc => ?_) (fun hc => ?_)
        · refine lv_iinc (v := nI (i + 1)) (lv' := [(3, .int (nI (i + 1))), (2, .int (nI f)), (0, .ref (ad 7)), (1, .int v)]) hx hb dP_rowsOfWeek_25 hl (k := 0) rfl (nI_add i 1) (by decide) rfl (fun ls hl => ?_)
          refine lv_goto (tgt := 4) hx hb dP_rowsOfWeek_28 (by decide) ?_
          exact ih (i + 1) f ls (by omega) (by rw [← hq]; simp [rwL, hc]) (lv_sub hl [0, 1, 2, 3] rfl)
        · refine lv_iinc (v := nI (f + 1)) (lv' := [(2, .int (nI (f + 1))), (3, .int (nI i)), (0, .ref (ad 7)), (1, .int v)]) hx hb dP_rowsOfWeek_22 hl (k := 1) rfl (nI_add f 1) (by decide) rfl (fun ls hl => ?_)
          refine lv_iinc (v := nI (i + 1)) (lv' := [(3, .int (nI (i + 1))), (2, .int (nI (f + 1))), (0, .ref (ad 7)), (1, .int v)]) hx hb dP_rowsOfWeek_25 hl (k := 1) rfl (nI_add i 1) (by decide) rfl (fun ls hl => ?_)
          refine lv_goto (tgt := 4) hx hb dP_rowsOfWeek_28 (by decide) ?_
          exact ih (i + 1) (f + 1) ls (by omega) (by rw [← hq]; simp [rwL, hc]) (lv_sub hl [0, 1, 2, 3] rfl)
  exact loop4 P.rows 0 0 ls (by omega) rfl (lv_sub hl [0, 1, 2, 3] rfl)

set_option maxHeartbeats 4000000 in
set_option maxRecDepth 100000 in
theorem c_P_linesOf (l : Launch) (dC : Nat → ClassId) (dI : Nat → Nat → Nat) (ad : Nat → Nat) (k : Nat → ClassId) (P : PS) (F : Nat → Int32) (T : TS) (r : Nat) (hr9 : r < 12) : Met l yP_linesOf wP_linesOf ({ frames := 0, cells := 0, slots := 0, locals := 0 }) (rPc [.ref (ad 7), .int (nI r)] (dC, dI) vwCl (PW ad k P ++ (FW ad k F ++ TW ad k T)) (PK k ++ (FK k ++ TK k)) nW) (rQ (some (.int (nI (lnM P.K r))))) 0 0 (fun _ => False) := by
  refine Met.ofW (cc := bP_linesOf) (maxL := 2) (ret := (some .int)) (by decide) rfl ?_
  intro p e s m args below meth c s₁ B hml hv
  obtain ⟨rfl, hP, hK, hX⟩ := hv
  have hx := B.exec
  have hb := B.bytes
  have hr := B.returns
  have hts := atoms_spec (ws := wP_linesOf) B.pre
  have hta : ∀ w ∈ AW, w.before _ s = true := fun w h => hts w (List.mem_cons_of_mem _ h)
  have hown : s.vm.findClass RP = some m.cls := findClass_of_methodNamed B.named
  have hlocks := B.notSynchronized
  have hl := lv_entry ([.ref (ad 7), .int (nI r)]) (n := 2) (Nat.le_of_ble_eq_true rfl)
  rw [lg_entry_eq]
  generalize (lg_sl ([.ref (ad 7), .int (nI r)]) ++ List.replicate (2 - (lg_sl ([.ref (ad 7), .int (nI r)])).length) Slot.unset).toArray = ls at hl ⊢
  have hl : lv_has ls 2 [(0, .ref (ad 7)), (1, .int (nI r))] := hl
  refine lv_aload_n hx hb dP_linesOf_0 rfl (lv_at hl 0 rfl) ?_
  refine va_get (D := (dC, dI)) (ci := 1) (v := .ref (ad 8)) (C := RP) (T := FP) (N := 12) hx hb hta iP hown hK hP 0 rfl rfl 1 (by decide) (hta _ m_64) (fun _ h9 => h9) rfl dP_linesOf_1 ?_
  refine lv_iload_n hx hb dP_linesOf_4 rfl (lv_at hl 1 rfl) ?_
  refine na_iald hx hb hK hP 1 0 rfl rfl (i := r) (by omega) (by decide) dP_linesOf_5 ?_
  refine lv_iconst (v := 2) hx hb dP_linesOf_6 (by decide) ?_
  refine lv_icmp_ne (tgt := 14) hx hb dP_linesOf_7 (by decide) (fun hc => ?_) (fun hc => ?_)
  · refine lv_iconst (v := nI 1) hx hb dP_linesOf_14 (by decide) ?_
    exact W.iret (v := nI 1) hx hb hr (fun t ht hW => ⟨congrArg (fun z => Outcome.returned (some (.int z))) (by simp [lnM, hc]), ht⟩) (fun q h => nomatch h) dP_linesOf_15
  · refine lv_iconst (v := nI 2) hx hb dP_linesOf_10 (by decide) ?_
    refine lv_goto (tgt := 15) hx hb dP_linesOf_11 (by decide) ?_
    exact W.iret (v := nI 2) hx hb hr (fun t ht hW => ⟨congrArg (fun z => Outcome.returned (some (.int z))) (by simp [lnM, hc]), ht⟩) (fun q h => nomatch h) dP_linesOf_15

set_option maxHeartbeats 4000000 in
set_option maxRecDepth 100000 in
theorem c_P_linesInTable (l : Launch) (dC : Nat → ClassId) (dI : Nat → Nat → Nat) (ad : Nat → Nat) (k : Nat → ClassId) (P : PS) (F : Nat → Int32) (T : TS) (r : Nat) (hr9 : r < 12) (hri : P.rin ≤ 12) : Met l yP_linesInTable wP_linesInTable ({ frames := 1, cells := 0, slots := 0, locals := 21 }) (rPc [.ref (ad 7), .int (nI r)] (dC, dI) vwCl (PW ad k P ++ (FW ad k F ++ TW ad k T)) (PK k ++ (FK k ++ TK k)) nW) (rQ (some (.int (nI (liM P.K P.rin r))))) 0 0 (fun _ => False) := by
  refine Met.ofW (cc := bP_linesInTable) (maxL := 2) (ret := (some .int)) (by decide) rfl ?_
  intro p e s m args below meth c s₁ B hml hv
  obtain ⟨rfl, hP, hK, hX⟩ := hv
  have hx := B.exec
  have hb := B.bytes
  have hr := B.returns
  have hts := atoms_spec (ws := wP_linesInTable) B.pre
  have hta : ∀ w ∈ AW, w.before _ s = true := fun w h => hts w (List.mem_cons_of_mem _ h)
  have hown : s.vm.findClass RP = some m.cls := findClass_of_methodNamed B.named
  have hlocks := B.notSynchronized
  have hl := lv_entry ([.ref (ad 7), .int (nI r)]) (n := 2) (Nat.le_of_ble_eq_true rfl)
  rw [lg_entry_eq]
  generalize (lg_sl ([.ref (ad 7), .int (nI r)]) ++ List.replicate (2 - (lg_sl ([.ref (ad 7), .int (nI r)])).length) Slot.unset).toArray = ls at hl ⊢
  have hl : lv_has ls 2 [(0, .ref (ad 7)), (1, .int (nI r))] := hl
  refine lv_iload_n hx hb dP_linesInTable_0 rfl (lv_at hl 1 rfl) ?_
  refine lv_aload_n hx hb dP_linesInTable_1 rfl (lv_at hl 0 rfl) ?_
  refine va_get (D := (dC, dI)) (ci := 1) (v := .int (nI P.rin)) (C := RP) (T := FP) (N := 12) hx hb hta iP hown hK hP 0 rfl rfl 8 (by decide) (hta _ m_71) (fun _ h9 => h9) rfl dP_linesInTable_2 ?_
  refine ni_ge (tgt := 16) hx hb dP_linesInTable_5 (by decide) (by omega) (by omega) (fun hc => ?_) (fun hc => ?_)
  · refine lv_iconst (v := nI 0) hx hb dP_linesInTable_16 (by decide) ?_
    exact W.iret (v := nI 0) hx hb hr (fun t ht hW => ⟨congrArg (fun z => Outcome.returned (some (.int z))) (by first | (rw [liM, if_pos hc]; done) | (rw [liM, if_neg (Nat.not_lt.mpr hc)]; done)), ht⟩) (fun q h => nomatch h) dP_linesInTable_17
  · refine lv_aload_n hx hb dP_linesInTable_8 rfl (lv_at hl 0 rfl) ?_
    refine lv_iload_n hx hb dP_linesInTable_9 rfl (lv_at hl 1 rfl) ?_
    refine rd_call (va_runV (As := [.int (nI r)]) (rest := []) ⟨hx, hb, hml, hown, hta⟩ (c_P_linesOf l dC dI ad k P F T r (by first | omega | exact hw | exact hh)) (cwV 1 hta (gV m_326 m_328 mp_15 m_1 m_329) rfl rfl rfl (by decide +kernel) ⟨Nat.le_of_ble_eq_true rfl, Nat.le_of_ble_eq_true rfl⟩) (rd_V nW_ok hX hK hP (ci := 1) (q0 := 0) rfl rfl) rfl rfl hl.1 rfl (lv_room (Nat.le_of_ble_eq_true rfl)) dP_linesInTable_10 ⟨Nat.zero_le _, Nat.zero_le _⟩) ?_
    refine W.eq (g2 := F0 m 13 ls [.int (nI (lnM P.K r))]) rfl ?_
    refine lv_goto (tgt := 17) hx hb dP_linesInTable_13 (by decide) ?_
    exact W.iret (v := nI (lnM P.K r)) hx hb hr (fun t ht hW => ⟨congrArg (fun z => Outcome.returned (some (.int z))) (by first | (rw [liM, if_pos hc]; done) | (rw [liM, if_neg (Nat.not_lt.mpr hc)]; done)), ht⟩) (fun q h => nomatch h) dP_linesInTable_17

set_option maxHeartbeats 4000000 in
set_option maxRecDepth 100000 in
theorem c_P_signOf (l : Launch) (dC : Nat → ClassId) (dI : Nat → Nat → Nat) (ad : Nat → Nat) (k : Nat → ClassId) (P : PS) (F : Nat → Int32) (T : TS) (r j : Nat) (hr9 : r < 12) (hj : j < 3) : Met l yP_signOf wP_signOf ({ frames := 0, cells := 0, slots := 0, locals := 0 }) (rPc [.ref (ad 7), .int (nI r), .int (nI j)] (dC, dI) vwCl (PW ad k P ++ (FW ad k F ++ TW ad k T)) (PK k ++ (FK k ++ TK k)) nW) (rQ (some (.int (sgM P.K r j)))) 0 0 (fun _ => False) := by
  refine Met.ofW (cc := bP_signOf) (maxL := 3) (ret := (some .int)) (by decide) rfl ?_
  intro p e s m args below meth c s₁ B hml hv
  obtain ⟨rfl, hP, hK, hX⟩ := hv
  have hx := B.exec
  have hb := B.bytes
  have hr := B.returns
  have hts := atoms_spec (ws := wP_signOf) B.pre
  have hta : ∀ w ∈ AW, w.before _ s = true := fun w h => hts w (List.mem_cons_of_mem _ h)
  have hown : s.vm.findClass RP = some m.cls := findClass_of_methodNamed B.named
  have hlocks := B.notSynchronized
  have hl := lv_entry ([.ref (ad 7), .int (nI r), .int (nI j)]) (n := 3) (Nat.le_of_ble_eq_true rfl)
  rw [lg_entry_eq]
  generalize (lg_sl ([.ref (ad 7), .int (nI r), .int (nI j)]) ++ List.replicate (3 - (lg_sl ([.ref (ad 7), .int (nI r), .int (nI j)])).length) Slot.unset).toArray = ls at hl ⊢
  have hl : lv_has ls 3 [(0, .ref (ad 7)), (1, .int (nI r)), (2, .int (nI j))] := hl
  refine lv_aload_n hx hb dP_signOf_0 rfl (lv_at hl 0 rfl) ?_
  refine va_get (D := (dC, dI)) (ci := 1) (v := .ref (ad 8)) (C := RP) (T := FP) (N := 12) hx hb hta iP hown hK hP 0 rfl rfl 1 (by decide) (hta _ m_64) (fun _ h9 => h9) rfl dP_signOf_1 ?_
  refine lv_iload_n hx hb dP_signOf_4 rfl (lv_at hl 1 rfl) ?_
  refine na_iald hx hb hK hP 1 0 rfl rfl (i := r) (by omega) (by decide) dP_signOf_5 ?_
  refine lv_iconst (v := 1) hx hb dP_signOf_6 (by decide) ?_
  refine lv_icmp_eq (tgt := 15) hx hb dP_signOf_7 (by decide) (fun h1 => ?_) (fun h1 => ?_)
  · refine lv_iconst (v := (-1)) hx hb dP_signOf_15 (by decide) ?_
    refine lv_goto (tgt := 20) hx hb dP_signOf_16 (by decide) ?_
    exact W.iret (v := (-1)) hx hb hr (fun t ht hW => ⟨congrArg (fun z => Outcome.returned (some (.int z))) (by simp_all [sgM]), ht⟩) (fun q h => nomatch h) dP_signOf_20
  · refine lv_iload_n hx hb dP_signOf_10 rfl (lv_at hl 2 rfl) ?_
    refine lv_iconst (v := nI 1) hx hb dP_signOf_11 (by decide) ?_
    refine ni_ne (tgt := 19) hx hb dP_signOf_12 (by decide) (by omega) (by omega) (fun h2 => ?_) (fun h2 => ?_)
    · refine lv_iconst (v := 1) hx hb dP_signOf_19 (by decide) ?_
      exact W.iret (v := 1) hx hb hr (fun t ht hW => ⟨congrArg (fun z => Outcome.returned (some (.int z))) (by simp_all [sgM]), ht⟩) (fun q h => nomatch h) dP_signOf_20
    · refine lv_iconst (v := (-1)) hx hb dP_signOf_15 (by decide) ?_
      refine lv_goto (tgt := 20) hx hb dP_signOf_16 (by decide) ?_
      exact W.iret (v := (-1)) hx hb hr (fun t ht hW => ⟨congrArg (fun z => Outcome.returned (some (.int z))) (by simp_all [sgM]), ht⟩) (fun q h => nomatch h) dP_signOf_20

set_option maxHeartbeats 4000000 in
set_option maxRecDepth 100000 in
theorem c_P_variableOf (l : Launch) (dC : Nat → ClassId) (dI : Nat → Nat → Nat) (ad : Nat → Nat) (k : Nat → ClassId) (P : PS) (F : Nat → Int32) (T : TS) (r j : Nat) (hr9 : r < 12) : Met l yP_variableOf wP_variableOf ({ frames := 0, cells := 0, slots := 0, locals := 0 }) (rPc [.ref (ad 7), .int (nI r), .int (nI j)] (dC, dI) vwCl (PW ad k P ++ (FW ad k F ++ TW ad k T)) (PK k ++ (FK k ++ TK k)) nW) (rQ (some (.int (nI T.w + P.L r + nI j)))) 0 0 (fun _ => False) := by
  refine Met.ofW (cc := bP_variableOf) (maxL := 3) (ret := (some .int)) (by decide) rfl ?_
  intro p e s m args below meth c s₁ B hml hv
  obtain ⟨rfl, hP, hK, hX⟩ := hv
  have hx := B.exec
  have hb := B.bytes
  have hr := B.returns
  have hts := atoms_spec (ws := wP_variableOf) B.pre
  have hta : ∀ w ∈ AW, w.before _ s = true := fun w h => hts w (List.mem_cons_of_mem _ h)
  have hown : s.vm.findClass RP = some m.cls := findClass_of_methodNamed B.named
  have hlocks := B.notSynchronized
  have hl := lv_entry ([.ref (ad 7), .int (nI r), .int (nI j)]) (n := 3) (Nat.le_of_ble_eq_true rfl)
  rw [lg_entry_eq]
  generalize (lg_sl ([.ref (ad 7), .int (nI r), .int (nI j)]) ++ List.replicate (3 - (lg_sl ([.ref (ad 7), .int (nI r), .int (nI j)])).length) Slot.unset).toArray = ls at hl ⊢
  have hl : lv_has ls 3 [(0, .ref (ad 7)), (1, .int (nI r)), (2, .int (nI j))] := hl
  refine lv_aload_n hx hb dP_variableOf_0 rfl (lv_at hl 0 rfl) ?_
  refine va_get (D := (dC, dI)) (ci := 1) (v := .ref (ad 0)) (C := RP) (T := FP) (N := 12) hx hb hta iP hown hK hP 0 rfl rfl 6 (by decide) (hta _ m_69) (fun _ h9 => h9) rfl dP_variableOf_1 ?_
  refine va_getN (D := (dC, dI)) (ci := 0) (v := .int (nI T.w)) (C := RT) (T := FT) (N := 8) hx hb hta iT hown hK hP 6 rfl rfl 5 (by decide) (va_Nw.use rfl (hX _ nw_2)) (fun _ h9 => h9) rfl dP_variableOf_4 ?_
  refine lv_aload_n hx hb dP_variableOf_7 rfl (lv_at hl 0 rfl) ?_
  refine va_get (D := (dC, dI)) (ci := 1) (v := .ref (ad 11)) (C := RP) (T := FP) (N := 12) hx hb hta iP hown hK hP 0 rfl rfl 5 (by decide) (hta _ m_68) (fun _ h9 => h9) rfl dP_variableOf_8 ?_
  refine lv_iload_n hx hb dP_variableOf_11 rfl (lv_at hl 1 rfl) ?_
  refine na_iald hx hb hK hP 4 3 rfl rfl (i := r) (by omega) (by decide) dP_variableOf_12 ?_
  refine lv_iadd hx hb dP_variableOf_13 ?_
  refine lv_iload_n hx hb dP_variableOf_14 rfl (lv_at hl 2 rfl) ?_
  refine lv_iadd hx hb dP_variableOf_15 ?_
  exact W.iret (v := ((nI T.w) + (P.L r)) + (nI j)) hx hb hr (fun t ht hW => ⟨rfl, ht⟩) (fun q h => nomatch h) dP_variableOf_16

set_option maxHeartbeats 4000000 in
set_option maxRecDepth 100000 in
theorem c_P_isKept (l : Launch) (dC : Nat → ClassId) (dI : Nat → Nat → Nat) (ad : Nat → Nat) (k : Nat → ClassId) (P : PS) (F : Nat → Int32) (T : TS) (r : Nat) (hw : T.w ≤ 12) (hh : T.h ≤ 24) (hr9 : r < 12) : Met l yP_isKept wP_isKept ({ frames := 3, cells := 0, slots := 0, locals := 69 }) (rPc [.ref (ad 7), .int (nI r)] (dC, dI) vwCl (PW ad k P ++ (FW ad k F ++ TW ad k T)) (PK k ++ (FK k ++ TK k)) nW) (rQ (some (.int (bI (ikM P.K P.B F T r))))) 0 0 (fun _ => False) := by
  refine Met.ofW (cc := bP_isKept) (maxL := 4) (ret := (some .boolean)) (by decide) rfl ?_
  intro p e s m args below meth c s₁ B hml hv
  obtain ⟨rfl, hP, hK, hX⟩ := hv
  have hx := B.exec
  have hb := B.bytes
  have hr := B.returns
  have hts := atoms_spec (ws := wP_isKept) B.pre
  have hta : ∀ w ∈ AW, w.before _ s = true := fun w h => hts w (List.mem_cons_of_mem _ h)
  have hown : s.vm.findClass RP = some m.cls := findClass_of_methodNamed B.named
  have hlocks := B.notSynchronized
  have hl := lv_entry ([.ref (ad 7), .int (nI r)]) (n := 4) (Nat.le_of_ble_eq_true rfl)
  rw [lg_entry_eq]
  generalize (lg_sl ([.ref (ad 7), .int (nI r)]) ++ List.replicate (4 - (lg_sl ([.ref (ad 7), .int (nI r)])).length) Slot.unset).toArray = ls at hl ⊢
  have hl : lv_has ls 4 [(0, .ref (ad 7)), (1, .int (nI r))] := hl
  refine lv_aload_n hx hb dP_isKept_0 rfl (lv_at hl 0 rfl) ?_
  refine va_get (D := (dC, dI)) (ci := 1) (v := .ref (ad 0)) (C := RP) (T := FP) (N := 12) hx hb hta iP hown hK hP 0 rfl rfl 6 (by decide) (hta _ m_69) (fun _ h9 => h9) rfl dP_isKept_1 ?_
  refine lv_aload_n hx hb dP_isKept_4 rfl (lv_at hl 0 rfl) ?_
  refine va_get (D := (dC, dI)) (ci := 1) (v := .ref (ad 6)) (C := RP) (T := FP) (N := 12) hx hb hta iP hown hK hP 0 rfl rfl 4 (by decide) (hta _ m_67) (fun _ h9 => h9) rfl dP_isKept_5 ?_
  refine lv_iload_n hx hb dP_isKept_8 rfl (lv_at hl 1 rfl) ?_
  refine lv_iconst (v := nI 0) hx hb dP_isKept_9 (by decide) ?_
  refine rd_call (va_runS (As := [.int (nI r), .int (nI 0)]) (rest := [.ref (ad 6), .ref (ad 0)]) ⟨hx, hb, hml, hown, hta⟩ (c_P_factorPlace l dC dI ad k r 0) (cwS 2 hta (gS m_108 m_109 m_1 m_110) rfl rfl rfl (by decide +kernel) ⟨Nat.le_of_ble_eq_true rfl, Nat.le_of_ble_eq_true rfl⟩) (rd_S xT_ok trivial (hK.sub [] rfl) va_P_nil) rfl rfl hl.1 rfl (lv_room (Nat.le_of_ble_eq_true rfl)) dP_isKept_10 ⟨Nat.zero_le _, Nat.zero_le _⟩) ?_
  refine W.eq (g2 := F0 m 13 ls [.int (nI (r * 12 + 0)), .ref (ad 6), .ref (ad 0)]) rfl ?_
  refine rd_call (va_runVN (As := [.ref (ad 6), .int (nI (r * 12 + 0))]) (rest := []) ⟨hx, hb, hml, hown, hta⟩ (c_T_sumOfStarts l dC dI ad k F T (r * 12 + 0) (by first | omega | exact hw | exact hh) (by first | omega | exact hw | exact hh) (by first | omega | exact hw | exact hh)) ⟨(va_cnB 2 hta (gC m_114) rfl rfl rfl (hX _ nw_5) (hta _ m_2) (by decide +kernel) ⟨Nat.le_of_ble_eq_true rfl, Nat.le_of_ble_eq_true rfl⟩), hta _ m_113, hta _ mp_1⟩ (rd_V xT_ok trivial (hK.sub [4, 5, 6, 7, 8, 9] rfl) (hP.sub [5, 6, 7, 8, 9, 10, 11] rfl) (ci := 0) (q0 := 1) rfl rfl) rfl rfl hl.1 rfl (lv_room (Nat.le_of_ble_eq_true rfl)) dP_isKept_13 ⟨Nat.zero_le _, Nat.zero_le _⟩) ?_
  refine W.eq (g2 := F0 m 16 ls [.long (sumS T F (r * 12 + 0) 0 T.w 0)]) rfl ?_
  refine lv_aload_n hx hb dP_isKept_16 rfl (lv_at hl 0 rfl) ?_
  refine va_get (D := (dC, dI)) (ci := 1) (v := .ref (ad 0)) (C := RP) (T := FP) (N := 12) hx hb hta iP hown hK hP 0 rfl rfl 6 (by decide) (hta _ m_69) (fun _ h9 => h9) rfl dP_isKept_17 ?_
  refine va_getN (D := (dC, dI)) (ci := 0) (v := .long T.d) (C := RT) (T := FT) (N := 8) hx hb hta iT hown hK hP 6 rfl rfl 7 (by decide) (va_Nw.use rfl (hX _ nw_4)) (fun _ h9 => h9) rfl dP_isKept_20 ?_
  refine lv_aload_n hx hb dP_isKept_23 rfl (lv_at hl 0 rfl) ?_
  refine va_get (D := (dC, dI)) (ci := 1) (v := .ref (ad 10)) (C := RP) (T := FP) (N := 12) hx hb hta iP hown hK hP 0 rfl rfl 3 (by decide) (hta _ m_66) (fun _ h9 => h9) rfl dP_isKept_24 ?_
  refine lv_iload_n hx hb dP_isKept_27 rfl (lv_at hl 1 rfl) ?_
  refine na_lald hx hb hK hP 3 2 rfl rfl (i := r) (by omega) (by decide) dP_isKept_28 ?_
  refine lv_lmul hx hb dP_isKept_29 ?_
  refine lv_lsub hx hb dP_isKept_30 ?_
  refine st_l (y := ovM P.B F T r) (rfl) ?_
  refine lv_lstore_n (lv' := [(2, .long (ovM P.B F T r)), (0, .ref (ad 7)), (1, .int (nI r))]) hx hb dP_isKept_31 rfl hl (by decide) rfl (fun ls hl => ?_)
  refine lv_aload_n hx hb dP_isKept_32 rfl (lv_at hl 1 rfl) ?_
  refine va_get (D := (dC, dI)) (ci := 1) (v := .ref (ad 8)) (C := RP) (T := FP) (N := 12) hx hb hta iP hown hK hP 0 rfl rfl 1 (by decide) (hta _ m_64) (fun _ h9 => h9) rfl dP_isKept_33 ?_
  refine lv_iload_n hx hb dP_isKept_36 rfl (lv_at hl 2 rfl) ?_
  refine na_iald hx hb hK hP 1 0 rfl rfl (i := r) (by omega) (by decide) dP_isKept_37 ?_
  refine lv_if_ne (tgt := 53) hx hb dP_isKept_38 (by decide) (fun h1 => ?_) (fun h1 => ?_)
  · refine lv_aload_n hx hb dP_isKept_53 rfl (lv_at hl 1 rfl) ?_
    refine va_get (D := (dC, dI)) (ci := 1) (v := .ref (ad 8)) (C := RP) (T := FP) (N := 12) hx hb hta iP hown hK hP 0 rfl rfl 1 (by decide) (hta _ m_64) (fun _ h9 => h9) rfl dP_isKept_54 ?_
    refine lv_iload_n hx hb dP_isKept_57 rfl (lv_at hl 2 rfl) ?_
    refine na_iald hx hb hK hP 1 0 rfl rfl (i := r) (by omega) (by decide) dP_isKept_58 ?_
    refine lv_iconst (v := 1) hx hb dP_isKept_59 (by decide) ?_
    refine lv_icmp_ne (tgt := 77) hx hb dP_isKept_60 (by decide) (fun h3 => ?_) (fun h3 => ?_)
    · refine lv_lload_n hx hb dP_isKept_77 rfl (lv_at hl 0 rfl) ?_
      refine lv_lconst (v := 0) hx hb dP_isKept_78 (by decide) ?_
      refine ll_ne (tgt := 87) hx hb dP_isKept_79 dP_isKept_80 (by decide) (fun h2 => ?_) (fun h2 => ?_)
      · refine lv_iconst (v := 0) hx hb dP_isKept_87 (by decide) ?_
        exact W.zret (v := 0) hx hb hr (rfl) (fun t ht hW => ⟨congrArg (fun z => Outcome.returned (some (.int z))) (by simp [ikM, h1, h3, h2, bI]), ht⟩) (fun q h => nomatch h) dP_isKept_88
      · refine lv_iconst (v := 1) hx hb dP_isKept_83 (by decide) ?_
        refine lv_goto (tgt := 88) hx hb dP_isKept_84 (by decide) ?_
        exact W.zret (v := 1) hx hb hr (rfl) (fun t ht hW => ⟨congrArg (fun z => Outcome.returned (some (.int z))) (by simp [ikM, h1, h3, h2, bI]), ht⟩) (fun q h => nomatch h) dP_isKept_88
    · refine lv_lload_n hx hb dP_isKept_63 rfl (lv_at hl 0 rfl) ?_
      refine lv_lconst (v := 0) hx hb dP_isKept_64 (by decide) ?_
      refine ll_gt (tgt := 73) hx hb dP_isKept_65 dP_isKept_66 (by decide) (fun h2 => ?_) (fun h2 => ?_)
      · refine lv_iconst (v := 0) hx hb dP_isKept_73 (by decide) ?_
        refine lv_goto (tgt := 88) hx hb dP_isKept_74 (by decide) ?_
        exact W.zret (v := 0) hx hb hr (rfl) (fun t ht hW => ⟨congrArg (fun z => Outcome.returned (some (.int z))) (by simp [ikM, h1, h3, h2, bI]), ht⟩) (fun q h => nomatch h) dP_isKept_88
      · refine lv_iconst (v := 1) hx hb dP_isKept_69 (by decide) ?_
        refine lv_goto (tgt := 88) hx hb dP_isKept_70 (by decide) ?_
        exact W.zret (v := 1) hx hb hr (rfl) (fun t ht hW => ⟨congrArg (fun z => Outcome.returned (some (.int z))) (by simp [ikM, h1, h3, h2, bI]), ht⟩) (fun q h => nomatch h) dP_isKept_88
  · refine lv_lload_n hx hb dP_isKept_41 rfl (lv_at hl 0 rfl) ?_
    refine lv_lconst (v := 0) hx hb dP_isKept_42 (by decide) ?_
    refine ll_lt (tgt := 51) hx hb dP_isKept_43 dP_isKept_44 (by decide) (fun h2 => ?_) (fun h2 => ?_)
    · refine lv_iconst (v := 0) hx hb dP_isKept_51 (by decide) ?_
      exact W.zret (v := 0) hx hb hr (rfl) (fun t ht hW => ⟨congrArg (fun z => Outcome.returned (some (.int z))) (by simp [ikM, h1, h2, bI]), ht⟩) (fun q h => nomatch h) dP_isKept_52
    · refine lv_iconst (v := 1) hx hb dP_isKept_47 (by decide) ?_
      refine lv_goto (tgt := 52) hx hb dP_isKept_48 (by decide) ?_
      exact W.zret (v := 1) hx hb hr (rfl) (fun t ht hW => ⟨congrArg (fun z => Outcome.returned (some (.int z))) (by simp [ikM, h1, h2, bI]), ht⟩) (fun q h => nomatch h) dP_isKept_52

set_option maxHeartbeats 4000000 in
set_option maxRecDepth 100000 in
theorem c_P_check (l : Launch) (dC : Nat → ClassId) (dI : Nat → Nat → Nat) (ad : Nat → Nat) (k : Nat → ClassId) (P : PS) (F : Nat → Int32) (T : TS)  (hw : T.w ≤ 12) (hh : T.h ≤ 24) (hro : P.rows ≤ 12) : Met l yP_check wP_check ({ frames := 4, cells := 0, slots := 0, locals := 92 }) (rPc [.ref (ad 7)] (dC, dI) vwCl (PW ad k P ++ (FW ad k F ++ TW ad k T)) (PK k ++ (FK k ++ TK k)) nW) (rQ (some (.int (nI (ckL P.K P.B F T 0 P.rows))))) 0 0 (fun _ => False) := by
  refine Met.ofW (cc := bP_check) (maxL := 2) (ret := (some .int)) (by decide) rfl ?_
  intro p e s m args below meth c s₁ B hml hv
  obtain ⟨rfl, hP, hK, hX⟩ := hv
  have hx := B.exec
  have hb := B.bytes
  have hr := B.returns
  have hts := atoms_spec (ws := wP_check) B.pre
  have hta : ∀ w ∈ AW, w.before _ s = true := fun w h => hts w (List.mem_cons_of_mem _ h)
  have hown : s.vm.findClass RP = some m.cls := findClass_of_methodNamed B.named
  have hlocks := B.notSynchronized
  have hl := lv_entry ([.ref (ad 7)]) (n := 2) (Nat.le_of_ble_eq_true rfl)
  rw [lg_entry_eq]
  generalize (lg_sl ([.ref (ad 7)]) ++ List.replicate (2 - (lg_sl ([.ref (ad 7)])).length) Slot.unset).toArray = ls at hl ⊢
  have hl : lv_has ls 2 [(0, .ref (ad 7))] := hl
  refine lv_iconst (v := nI 0) hx hb dP_check_0 (by decide) ?_
  refine lv_istore_n (lv' := [(1, .int (nI 0)), (0, .ref (ad 7))]) hx hb dP_check_1 rfl hl (by decide) rfl (fun ls hl => ?_)
  have loop2 : ∀ (n : Nat) (i : Nat) (ls : Array Slot), (i + n = P.rows) → (ckL P.K P.B F T i n = ckL P.K P.B F T 0 P.rows) → lv_has ls 2 [(1, .int (nI i)), (0, .ref (ad 7))] → W p l e (headSpec wP_check ({ frames := 4, cells := 0, slots := 0, locals := 92 })).room s m ([.ref (ad 7)] : List Value).toArray below meth c s.heap [] 0 0 (MQ below (rQ (some (.int (nI (ckL P.K P.B F T 0 P.rows))))) ([.ref (ad 7)] : List Value).toArray s 0 0 (fun _ => False)) (F0 m 2 ls []) := by
    intro n
    induction n with
    | zero =>
      intro i ls hn hq hl
      refine lv_iload_n hx hb dP_check_2 rfl (lv_at hl 0 rfl) ?_
      refine lv_aload_n hx hb dP_check_3 rfl (lv_at hl 1 rfl) ?_
      refine va_get (D := (dC, dI)) (ci := 1) (v := .int (nI P.rows)) (C := RP) (T := FP) (N := 12) hx hb hta iP hown hK hP 0 rfl rfl 7 (by decide) (hta _ m_70) (fun _ h9 => h9) rfl dP_check_4 ?_
      refine ni_ge (tgt := 28) hx hb dP_check_7 (by decide) (by omega) (by omega) (fun c_1 => ?_) (fun c_1 => ?_)
      · refine lv_iconst (v := nI 0) hx hb dP_check_28 (by decide) ?_
        exact W.iret (v := nI 0) hx hb hr (fun t ht hW => ⟨congrArg (fun z => Outcome.returned (some (.int z))) (by rw [← hq]; rfl), ht⟩) (fun q h => nomatch h) dP_check_29
      · exfalso; omega
    | succ n ih =>
      intro i ls hn hq hl
      refine lv_iload_n hx hb dP_check_2 rfl (lv_at hl 0 rfl) ?_
      refine lv_aload_n hx hb dP_check_3 rfl (lv_at hl 1 rfl) ?_
      refine va_get (D := (dC, dI)) (ci := 1) (v := .int (nI P.rows)) (C := RP) (T := FP) (N := 12) hx hb hta iP hown hK hP 0 rfl rfl 7 (by decide) (hta _ m_70) (fun _ h9 => h9) rfl dP_check_4 ?_
      refine ni_ge (tgt := 28) hx hb dP_check_7 (by decide) (by omega) (by omega) (fun c_2 => ?_) (fun c_2 => ?_)
      · exfalso; omega
      · refine lv_aload_n hx hb dP_check_10 rfl (lv_at hl 1 rfl) ?_
        refine lv_iload_n hx hb dP_check_11 rfl (lv_at hl 0 rfl) ?_
        refine rd_call (va_runV (As := [.int (nI i)]) (rest := []) ⟨hx, hb, hml, hown, hta⟩ (c_P_isKept l dC dI ad k P F T i (by first | omega | exact hw | exact hh) (by first | omega | exact hw | exact hh) (by first | omega | exact hw | exact hh)) (cwV 1 hta (gV m_104 m_106 mp_0 m_1 m_107) rfl rfl rfl (by decide +kernel) ⟨Nat.le_of_ble_eq_true rfl, Nat.le_of_ble_eq_true rfl⟩) (rd_V nW_ok hX hK hP (ci := 1) (q0 := 0) rfl rfl) rfl rfl hl.1 rfl (lv_room (Nat.le_of_ble_eq_true rfl)) dP_check_12 ⟨Nat.zero_le _, Nat.zero_le _⟩) ?_
        refine W.eq (g2 := F0 m 15 ls [.int (bI (ikM P.K P.B F T i))]) rfl ?_
        refine lb_ne (tgt := 22) hx hb dP_check_15 (by decide) (fun hc => ?_) (fun hc => ?_)
        · refine lv_iinc (v := nI (i + 1)) (lv' := [(1, .int (nI (i + 1))), (0, .ref (ad 7))]) hx hb dP_check_22 hl (k := 0) rfl (nI_add i 1) (by decide) rfl (fun ls hl => ?_)
          refine lv_goto (tgt := 2) hx hb dP_check_25 (by decide) ?_
          exact ih (i + 1) ls (by omega) (by rw [← hq]; simp [ckL, hc]) (lv_sub hl [0, 1] rfl)
        · refine lv_iload_n hx hb dP_check_18 rfl (lv_at hl 0 rfl) ?_
          refine lv_iconst (v := nI 1) hx hb dP_check_19 (by decide) ?_
          refine lv_iadd hx hb dP_check_20 ?_
          refine st_i (y := nI (i + 1)) (nI_add _ _) ?_
          exact W.iret (v := nI (i + 1)) hx hb hr (fun t ht hW => ⟨congrArg (fun z => Outcome.returned (some (.int z))) (by rw [← hq]; simp [ckL, hc]), ht⟩) (fun q h => nomatch h) dP_check_21
  exact loop2 P.rows 0 ls (by omega) rfl (lv_sub hl [0, 1] rfl)

set_option maxHeartbeats 4000000 in
set_option maxRecDepth 100000 in
theorem c_P_steps (l : Launch) (dC : Nat → ClassId) (dI : Nat → Nat → Nat) (ad : Nat → Nat) (k : Nat → ClassId) (P : PS) (F : Nat → Int32) (T : TS)   : Met l yP_steps wP_steps ({ frames := 0, cells := 0, slots := 0, locals := 0 }) (rPc [.ref (ad 7)] (dC, dI) vwCl (PW ad k P ++ (FW ad k F ++ TW ad k T)) (PK k ++ (FK k ++ TK k)) nW) (rQ (some (.int P.stp))) 0 0 (fun _ => False) := by
  refine Met.ofW (cc := bP_steps) (maxL := 1) (ret := (some .int)) (by decide) rfl ?_
  intro p e s m args below meth c s₁ B hml hv
  obtain ⟨rfl, hP, hK, hX⟩ := hv
  have hx := B.exec
  have hb := B.bytes
  have hr := B.returns
  have hts := atoms_spec (ws := wP_steps) B.pre
  have hta : ∀ w ∈ AW, w.before _ s = true := fun w h => hts w (List.mem_cons_of_mem _ h)
  have hown : s.vm.findClass RP = some m.cls := findClass_of_methodNamed B.named
  have hlocks := B.notSynchronized
  have hl := lv_entry ([.ref (ad 7)]) (n := 1) (Nat.le_of_ble_eq_true rfl)
  rw [lg_entry_eq]
  generalize (lg_sl ([.ref (ad 7)]) ++ List.replicate (1 - (lg_sl ([.ref (ad 7)])).length) Slot.unset).toArray = ls at hl ⊢
  have hl : lv_has ls 1 [(0, .ref (ad 7))] := hl
  refine lv_aload_n hx hb dP_steps_0 rfl (lv_at hl 0 rfl) ?_
  refine va_get (D := (dC, dI)) (ci := 1) (v := .int P.stp) (C := RP) (T := FP) (N := 12) hx hb hta iP hown hK hP 0 rfl rfl 9 (by decide) (hta _ m_72) (fun _ h9 => h9) rfl dP_steps_1 ?_
  exact W.iret (v := P.stp) hx hb hr (fun t ht hW => ⟨rfl, ht⟩) (fun q h => nomatch h) dP_steps_4

set_option maxHeartbeats 4000000 in
set_option maxRecDepth 100000 in
theorem c_P_timesTaken (l : Launch) (dC : Nat → ClassId) (dI : Nat → Nat → Nat) (ad : Nat → Nat) (k : Nat → ClassId) (P : PS) (F : Nat → Int32) (T : TS) (o : Option Nat) (v : Int32) (hw : T.w ≤ 12) (ho9 : ∀ j, o = some j → j < 25) : Met l yP_timesTaken wP_timesTaken ({ frames := 2, cells := 0, slots := 0, locals := 45 }) (rPc [.ref (ad 7), .int (enc o), .int v] (dC, dI) vwCl (PW ad k P ++ (FW ad k F ++ TW ad k T)) (PK k ++ (FK k ++ TK k)) nW) (rQ (some (.long (tmM T o v)))) 0 0 (fun _ => False) := by
  refine Met.ofW (cc := bP_timesTaken) (maxL := 3) (ret := (some .long)) (by decide) rfl ?_
  intro p e s m args below meth c s₁ B hml hv
  obtain ⟨rfl, hP, hK, hX⟩ := hv
  have hx := B.exec
  have hb := B.bytes
  have hr := B.returns
  have hts := atoms_spec (ws := wP_timesTaken) B.pre
  have hta : ∀ w ∈ AW, w.before _ s = true := fun w h => hts w (List.mem_cons_of_mem _ h)
  have hown : s.vm.findClass RP = some m.cls := findClass_of_methodNamed B.named
  have hlocks := B.notSynchronized
  have hl := lv_entry ([.ref (ad 7), .int (enc o), .int v]) (n := 3) (Nat.le_of_ble_eq_true rfl)
  rw [lg_entry_eq]
  generalize (lg_sl ([.ref (ad 7), .int (enc o), .int v]) ++ List.replicate (3 - (lg_sl ([.ref (ad 7), .int (enc o), .int v])).length) Slot.unset).toArray = ls at hl ⊢
  have hl : lv_has ls 3 [(0, .ref (ad 7)), (1, .int (enc o)), (2, .int v)] := hl
  refine lv_iload_n hx hb dP_timesTaken_0 rfl (lv_at hl 1 rfl) ?_
  refine lv_iconst (v := (-1)) hx hb dP_timesTaken_1 (by decide) ?_
  refine en_ne (o := o) (tgt := 7) hx hb dP_timesTaken_2 (by decide) (fun j h => by have := ho9 j h; omega) (fun j_1 ho => ?_) (fun ho => ?_)
  · rw [ho] at hl
    have hl : lv_has ls 3 [(0, .ref (ad 7)), (1, .int (nI j_1)), (2, .int v)] := hl
    have hj := ho9 _ ho
    refine lv_aload_n hx hb dP_timesTaken_7 rfl (lv_at hl 0 rfl) ?_
    refine va_get (D := (dC, dI)) (ci := 1) (v := .ref (ad 0)) (C := RP) (T := FP) (N := 12) hx hb hta iP hown hK hP 0 rfl rfl 6 (by decide) (hta _ m_69) (fun _ h9 => h9) rfl dP_timesTaken_8 ?_
    refine va_getN (D := (dC, dI)) (ci := 0) (v := .ref (ad 2)) (C := RT) (T := FT) (N := 8) hx hb hta iT hown hK hP 6 rfl rfl 1 (by decide) (va_Nw.use rfl (hX _ nw_1)) (fun _ h9 => h9) rfl dP_timesTaken_11 ?_
    refine lv_iload_n hx hb dP_timesTaken_14 rfl (lv_at hl 1 rfl) ?_
    refine na_iald hx hb hK hP 8 6 rfl rfl (i := j_1) (by omega) (by decide) dP_timesTaken_15 ?_
    refine lv_iload_n hx hb dP_timesTaken_16 rfl (lv_at hl 2 rfl) ?_
    refine lv_icmp_ne (tgt := 30) hx hb dP_timesTaken_17 (by decide) (fun hc => ?_) (fun hc => ?_)
    · refine lv_aload_n hx hb dP_timesTaken_30 rfl (lv_at hl 0 rfl) ?_
      refine va_get (D := (dC, dI)) (ci := 1) (v := .ref (ad 0)) (C := RP) (T := FP) (N := 12) hx hb hta iP hown hK hP 0 rfl rfl 6 (by decide) (hta _ m_69) (fun _ h9 => h9) rfl dP_timesTaken_31 ?_
      refine lv_iload_n hx hb dP_timesTaken_34 rfl (lv_at hl 1 rfl) ?_
      refine lv_iload_n hx hb dP_timesTaken_35 rfl (lv_at hl 2 rfl) ?_
      refine rd_call (va_runVN (As := [.int (nI j_1), .int v]) (rest := []) ⟨hx, hb, hml, hown, hta⟩ (c_T_numberBy l dC dI ad k T j_1 v (by first | omega | exact hw | exact hh) (by first | omega | exact hw | exact hh)) ⟨(va_cnB 2 hta (gC m_473) rfl rfl rfl (hX _ nw_19) (hta _ m_2) (by decide +kernel) ⟨Nat.le_of_ble_eq_true rfl, Nat.le_of_ble_eq_true rfl⟩), hta _ m_472, hta _ mp_38⟩ (rd_V xT_ok trivial (hK.sub [5, 6, 7, 8, 9] rfl) (hP.sub [6, 7, 8, 9, 10, 11] rfl) (ci := 0) (q0 := 0) rfl rfl) rfl rfl hl.1 rfl (lv_room (Nat.le_of_ble_eq_true rfl)) dP_timesTaken_36 ⟨Nat.zero_le _, Nat.zero_le _⟩) ?_
      refine W.eq (g2 := F0 m 39 ls [.long (TS.num T j_1 v)]) rfl ?_
      refine lv_lneg hx hb dP_timesTaken_39 ?_
      exact W.lret (v := -(TS.num T j_1 v)) hx hb hr (fun t ht hW => ⟨congrArg (fun z => Outcome.returned (some (.long z))) (by simp [tmM, ho, hc]), ht⟩) (fun q h => nomatch h) dP_timesTaken_40
    · refine lv_aload_n hx hb dP_timesTaken_20 rfl (lv_at hl 0 rfl) ?_
      refine va_get (D := (dC, dI)) (ci := 1) (v := .ref (ad 0)) (C := RP) (T := FP) (N := 12) hx hb hta iP hown hK hP 0 rfl rfl 6 (by decide) (hta _ m_69) (fun _ h9 => h9) rfl dP_timesTaken_21 ?_
      refine va_getN (D := (dC, dI)) (ci := 0) (v := .long T.d) (C := RT) (T := FT) (N := 8) hx hb hta iT hown hK hP 6 rfl rfl 7 (by decide) (va_Nw.use rfl (hX _ nw_4)) (fun _ h9 => h9) rfl dP_timesTaken_24 ?_
      refine lv_goto (tgt := 40) hx hb dP_timesTaken_27 (by decide) ?_
      exact W.lret (v := T.d) hx hb hr (fun t ht hW => ⟨congrArg (fun z => Outcome.returned (some (.long z))) (by simp [tmM, ho, hc]), ht⟩) (fun q h => nomatch h) dP_timesTaken_40
  · rw [ho] at hl
    have hl : lv_has ls 3 [(0, .ref (ad 7)), (1, .int (-1)), (2, .int v)] := hl
    refine lv_lconst (v := 0) hx hb dP_timesTaken_5 (by decide) ?_
    exact W.lret (v := 0) hx hb hr (fun t ht hW => ⟨congrArg (fun z => Outcome.returned (some (.long z))) (by simp [tmM, ho]), ht⟩) (fun q h => nomatch h) dP_timesTaken_6

set_option maxHeartbeats 4000000 in
set_option maxRecDepth 100000 in
theorem c_P_greatestCommon (l : Launch) (dC : Nat → ClassId) (dI : Nat → Nat → Nat) (ad : Nat → Nat) (k : Nat → ClassId) (x y : Int64)  : Met l yP_greatestCommon wP_greatestCommon ({ frames := 0, cells := 0, slots := 0, locals := 0 }) (rPc [.long x, .long y] (dC, dI) vwCl ([]) ([]) xT) (rQ (some (.long (gcL 100 x y)))) 0 0 (fun _ => False) := by
  refine Met.ofW (cc := bP_greatestCommon) (maxL := 7) (ret := (some .long)) (by decide) rfl ?_
  intro p e s m args below meth c s₁ B hml hv
  obtain ⟨rfl, hP, hK, hX⟩ := hv
  have hx := B.exec
  have hb := B.bytes
  have hr := B.returns
  have hts := atoms_spec (ws := wP_greatestCommon) B.pre
  have hta : ∀ w ∈ AW, w.before _ s = true := fun w h => hts w (List.mem_cons_of_mem _ h)
  have hown : s.vm.findClass RP = some m.cls := findClass_of_methodNamed B.named
  have hlocks := B.notSynchronized
  have hl := lv_entry ([.long x, .long y]) (n := 7) (Nat.le_of_ble_eq_true rfl)
  rw [lg_entry_eq]
  generalize (lg_sl ([.long x, .long y]) ++ List.replicate (7 - (lg_sl ([.long x, .long y])).length) Slot.unset).toArray = ls at hl ⊢
  have hl : lv_has ls 7 [(0, .long x), (2, .long y)] := hl
  refine lv_iconst (v := nI 0) hx hb dP_greatestCommon_0 (by decide) ?_
  refine lv_istore (lv' := [(4, .int (nI 0)), (0, .long x), (2, .long y)]) hx hb dP_greatestCommon_1 hl (by decide) rfl (fun ls hl => ?_)
  have loop3 : ∀ (n : Nat) (i : Nat) (u : Int64) (v : Int64) (ls : Array Slot), (i + n = 100) → (gcL n u v = gcL 100 x y) → lv_has ls 7 [(4, .int (nI i)), (0, .long u), (2, .long v)] → W p l e (headSpec wP_greatestCommon ({ frames := 0, cells := 0, slots := 0, locals := 0 })).room s m ([.long x, .long y] : List Value).toArray below meth c s.heap [] 0 0 (MQ below (rQ (some (.long (gcL 100 x y)))) ([.long x, .long y] : List Value).toArray s 0 0 (fun _ => False)) (F0 m 3 ls []) := by
    intro n
    induction n with
    | zero =>
      intro i u v ls hn hq hl
      refine lv_iload hx hb dP_greatestCommon_3 (lv_at hl 0 rfl) ?_
      refine lv_bipush (v := nI 100) hx hb dP_greatestCommon_5 (by decide) ?_
      refine ni_ge (tgt := 32) hx hb dP_greatestCommon_7 (by decide) (by omega) (by omega) (fun c_1 => ?_) (fun c_1 => ?_)
      · refine lv_lload_n hx hb dP_greatestCommon_32 rfl (lv_at hl 1 rfl) ?_
        exact W.lret (v := u) hx hb hr (fun t ht hW => ⟨congrArg (fun z => Outcome.returned (some (.long z))) (by rw [← hq]; rfl), ht⟩) (fun q h => nomatch h) dP_greatestCommon_33
      · exfalso; omega
    | succ n ih =>
      intro i u v ls hn hq hl
      refine lv_iload hx hb dP_greatestCommon_3 (lv_at hl 0 rfl) ?_
      refine lv_bipush (v := nI 100) hx hb dP_greatestCommon_5 (by decide) ?_
      refine ni_ge (tgt := 32) hx hb dP_greatestCommon_7 (by decide) (by omega) (by omega) (fun c_2 => ?_) (fun c_2 => ?_)
      · exfalso; omega
      · refine lv_lload_n hx hb dP_greatestCommon_10 rfl (lv_at hl 2 rfl) ?_
        refine lv_lconst (v := 0) hx hb dP_greatestCommon_11 (by decide) ?_
        refine ll_eq (tgt := 32) hx hb dP_greatestCommon_12 dP_greatestCommon_13 (by decide) (fun hc => ?_) (fun hc => ?_)
        · refine lv_lload_n hx hb dP_greatestCommon_32 rfl (lv_at hl 1 rfl) ?_
          exact W.lret (v := u) hx hb hr (fun t ht hW => ⟨congrArg (fun z => Outcome.returned (some (.long z))) (by rw [← hq]; simp [gcL, hc]), ht⟩) (fun q h => nomatch h) dP_greatestCommon_33
        · refine lv_lload_n hx hb dP_greatestCommon_16 rfl (lv_at hl 1 rfl) ?_
          refine lv_lload_n hx hb dP_greatestCommon_17 rfl (lv_at hl 2 rfl) ?_
          refine lv_lrem hx hb dP_greatestCommon_18 (hc) ?_
          refine lv_lstore (lv' := [(5, .long (u - u / v * v)), (4, .int (nI i)), (0, .long u), (2, .long v)]) hx hb dP_greatestCommon_19 hl (by decide) rfl (fun ls hl => ?_)
          refine lv_lload_n hx hb dP_greatestCommon_21 rfl (lv_at hl 3 rfl) ?_
          refine lv_lstore_n (lv' := [(0, .long v), (5, .long (u - u / v * v)), (4, .int (nI i)), (2, .long v)]) hx hb dP_greatestCommon_22 rfl hl (by decide) rfl (fun ls hl => ?_)
          refine lv_lload hx hb dP_greatestCommon_23 (lv_at hl 1 rfl) ?_
          refine lv_lstore_n (lv' := [(2, .long (u - u / v * v)), (0, .long v), (5, .long (u - u / v * v)), (4, .int (nI i))]) hx hb dP_greatestCommon_25 rfl hl (by decide) rfl (fun ls hl => ?_)
          refine lv_iinc (v := nI (i + 1)) (lv' := [(4, .int (nI (i + 1))), (2, .long (u - u / v * v)), (0, .long v), (5, .long (u - u / v * v))]) hx hb dP_greatestCommon_26 hl (k := 3) rfl (nI_add i 1) (by decide) rfl (fun ls hl => ?_)
          refine lv_goto (tgt := 3) hx hb dP_greatestCommon_29 (by decide) ?_
          exact ih (i + 1) (v) (u - u / v * v) ls (by omega) (by rw [← hq]; simp [gcL, hc]) (lv_sub hl [0, 2, 1] rfl)
  exact loop3 100 0 x y ls (by omega) rfl (lv_sub hl [0, 1, 2] rfl)

set_option maxHeartbeats 4000000 in
set_option maxRecDepth 100000 in
theorem c_P_inLeastTerms (l : Launch) (dC : Nat → ClassId) (dI : Nat → Nat → Nat) (ad : Nat → Nat) (k : Nat → ClassId) (u x : Int64) (pt : Int32)  : Met l yP_inLeastTerms wP_inLeastTerms ({ frames := 1, cells := 0, slots := 0, locals := 26 }) (rPc [.long u, .long x, .int pt] (dC, dI) vwCl ([]) ([]) xT) (rQ (some (.long (ltM u x pt)))) 0 0 (fun _ => False) := by
  refine Met.ofW (cc := bP_inLeastTerms) (maxL := 9) (ret := (some .long)) (by decide) rfl ?_
  intro p e s m args below meth c s₁ B hml hv
  obtain ⟨rfl, hP, hK, hX⟩ := hv
  have hx := B.exec
  have hb := B.bytes
  have hr := B.returns
  have hts := atoms_spec (ws := wP_inLeastTerms) B.pre
  have hta : ∀ w ∈ AW, w.before _ s = true := fun w h => hts w (List.mem_cons_of_mem _ h)
  have hown : s.vm.findClass RP = some m.cls := findClass_of_methodNamed B.named
  have hlocks := B.notSynchronized
  have hl := lv_entry ([.long u, .long x, .int pt]) (n := 9) (Nat.le_of_ble_eq_true rfl)
  rw [lg_entry_eq]
  generalize (lg_sl ([.long u, .long x, .int pt]) ++ List.replicate (9 - (lg_sl ([.long u, .long x, .int pt])).length) Slot.unset).toArray = ls at hl ⊢
  have hl : lv_has ls 9 [(0, .long u), (2, .long x), (4, .int pt)] := hl
  refine lv_iload hx hb dP_inLeastTerms_0 (lv_at hl 2 rfl) ?_
  refine lv_if_ne (tgt := 9) hx hb dP_inLeastTerms_2 (by decide) (fun h1 => ?_) (fun h1 => ?_)
  · refine lv_lload_n hx hb dP_inLeastTerms_9 rfl (lv_at hl 1 rfl) ?_
    refine lv_lstore (lv' := [(5, .long x), (0, .long u), (2, .long x), (4, .int pt)]) hx hb dP_inLeastTerms_10 hl (by decide) rfl (fun ls hl => ?_)
    refine lv_lload_n hx hb dP_inLeastTerms_12 rfl (lv_at hl 1 rfl) ?_
    refine va_mabs_long hx hb (hml.trans hl.1.symm) hown (hta _ m_445) (hta _ m_446) (hta _ m_3) (hta _ m_447) (Nat.le_of_ble_eq_true rfl) (Nat.le_of_ble_eq_true rfl) (Nat.zero_le _) (Nat.zero_le _) dP_inLeastTerms_13 ?_
    refine W.eq (g2 := F0 m 16 ls [.long (abL u)]) rfl ?_
    refine lv_lload_n hx hb dP_inLeastTerms_16 rfl (lv_at hl 2 rfl) ?_
    refine rd_call (va_runS (As := [.long (abL u), .long x]) (rest := []) ⟨hx, hb, hml, hown, hta⟩ (c_P_greatestCommon l dC dI ad k (abL u) x) (cwS 2 hta (gS m_448 m_449 m_1 m_450) rfl rfl rfl (by decide +kernel) ⟨Nat.le_of_ble_eq_true rfl, Nat.le_of_ble_eq_true rfl⟩) (rd_S xT_ok trivial (hK.sub [] rfl) va_P_nil) rfl rfl hl.1 rfl (lv_room (Nat.le_of_ble_eq_true rfl)) dP_inLeastTerms_17 ⟨Nat.zero_le _, Nat.zero_le _⟩) ?_
    refine W.eq (g2 := F0 m 20 ls [.long (gcL 100 (abL u) x)]) rfl ?_
    refine lv_lstore (lv' := [(7, .long (gcL 100 (abL u) x)), (5, .long x), (0, .long u), (2, .long x), (4, .int pt)]) hx hb dP_inLeastTerms_20 hl (by decide) rfl (fun ls hl => ?_)
    refine lv_lload hx hb dP_inLeastTerms_22 (lv_at hl 0 rfl) ?_
    refine lv_lconst (v := 0) hx hb dP_inLeastTerms_24 (by decide) ?_
    refine ll_ne (tgt := 34) hx hb dP_inLeastTerms_25 dP_inLeastTerms_26 (by decide) (fun h2 => ?_) (fun h2 => ?_)
    · refine lv_lload hx hb dP_inLeastTerms_34 (lv_at hl 1 rfl) ?_
      refine lv_lload hx hb dP_inLeastTerms_36 (lv_at hl 0 rfl) ?_
      refine lv_ldiv hx hb dP_inLeastTerms_38 (h2) ?_
      exact W.lret (v := x / (gcL 100 (abL u) x)) hx hb hr (fun t ht hW => ⟨congrArg (fun z => Outcome.returned (some (.long z))) (by simp [ltM, h1, h2]), ht⟩) (fun q h => nomatch h) dP_inLeastTerms_39
    · refine lv_lload hx hb dP_inLeastTerms_29 (lv_at hl 1 rfl) ?_
      refine lv_goto (tgt := 39) hx hb dP_inLeastTerms_31 (by decide) ?_
      exact W.lret (v := x) hx hb hr (fun t ht hW => ⟨congrArg (fun z => Outcome.returned (some (.long z))) (by simp [ltM, h1, h2]), ht⟩) (fun q h => nomatch h) dP_inLeastTerms_39
  · refine lv_lload_n hx hb dP_inLeastTerms_5 rfl (lv_at hl 0 rfl) ?_
    refine lv_goto (tgt := 10) hx hb dP_inLeastTerms_6 (by decide) ?_
    refine lv_lstore (lv' := [(5, .long u), (0, .long u), (2, .long x), (4, .int pt)]) hx hb dP_inLeastTerms_10 hl (by decide) rfl (fun ls hl => ?_)
    refine lv_lload_n hx hb dP_inLeastTerms_12 rfl (lv_at hl 1 rfl) ?_
    refine va_mabs_long hx hb (hml.trans hl.1.symm) hown (hta _ m_445) (hta _ m_446) (hta _ m_3) (hta _ m_447) (Nat.le_of_ble_eq_true rfl) (Nat.le_of_ble_eq_true rfl) (Nat.zero_le _) (Nat.zero_le _) dP_inLeastTerms_13 ?_
    refine W.eq (g2 := F0 m 16 ls [.long (abL u)]) rfl ?_
    refine lv_lload_n hx hb dP_inLeastTerms_16 rfl (lv_at hl 2 rfl) ?_
    refine rd_call (va_runS (As := [.long (abL u), .long x]) (rest := []) ⟨hx, hb, hml, hown, hta⟩ (c_P_greatestCommon l dC dI ad k (abL u) x) (cwS 2 hta (gS m_448 m_449 m_1 m_450) rfl rfl rfl (by decide +kernel) ⟨Nat.le_of_ble_eq_true rfl, Nat.le_of_ble_eq_true rfl⟩) (rd_S xT_ok trivial (hK.sub [] rfl) va_P_nil) rfl rfl hl.1 rfl (lv_room (Nat.le_of_ble_eq_true rfl)) dP_inLeastTerms_17 ⟨Nat.zero_le _, Nat.zero_le _⟩) ?_
    refine W.eq (g2 := F0 m 20 ls [.long (gcL 100 (abL u) x)]) rfl ?_
    refine lv_lstore (lv' := [(7, .long (gcL 100 (abL u) x)), (5, .long u), (0, .long u), (2, .long x), (4, .int pt)]) hx hb dP_inLeastTerms_20 hl (by decide) rfl (fun ls hl => ?_)
    refine lv_lload hx hb dP_inLeastTerms_22 (lv_at hl 0 rfl) ?_
    refine lv_lconst (v := 0) hx hb dP_inLeastTerms_24 (by decide) ?_
    refine ll_ne (tgt := 34) hx hb dP_inLeastTerms_25 dP_inLeastTerms_26 (by decide) (fun h2 => ?_) (fun h2 => ?_)
    · refine lv_lload hx hb dP_inLeastTerms_34 (lv_at hl 1 rfl) ?_
      refine lv_lload hx hb dP_inLeastTerms_36 (lv_at hl 0 rfl) ?_
      refine lv_ldiv hx hb dP_inLeastTerms_38 (h2) ?_
      exact W.lret (v := u / (gcL 100 (abL u) x)) hx hb hr (fun t ht hW => ⟨congrArg (fun z => Outcome.returned (some (.long z))) (by simp [ltM, h1, h2]), ht⟩) (fun q h => nomatch h) dP_inLeastTerms_39
    · refine lv_lload hx hb dP_inLeastTerms_29 (lv_at hl 1 rfl) ?_
      refine lv_goto (tgt := 39) hx hb dP_inLeastTerms_31 (by decide) ?_
      exact W.lret (v := u) hx hb hr (fun t ht hW => ⟨congrArg (fun z => Outcome.returned (some (.long z))) (by simp [ltM, h1, h2]), ht⟩) (fun q h => nomatch h) dP_inLeastTerms_39
end
section
set_option maxHeartbeats 4000000 in
set_option maxRecDepth 100000 in
theorem c_P_addRow (l : Launch) (dC : Nat → ClassId) (dI : Nat → Nat → Nat) (ad : Nat → Nat) (k : Nat → ClassId) (P : PS) (F : Nat → Int32) (T : TS) (sz : Nat) (kd wk : Int32) (b : Int64) (hro : P.rows < 12) : Met l yP_addRow wP_addRow ({ frames := 0, cells := 0, slots := 0, locals := 0 }) (wPc [.ref (ad 7), .int kd, .int wk, .long b] sz (dC, dI) vwCl (PW ad k P ++ (FW ad k F ++ TW ad k T)) (PK k ++ (FK k ++ TK k)) nW) (wQ (some (.int (nI P.rows))) (dC, dI) vwCl (PW ad k (ps (upd P.K P.rows kd) (upd P.V P.rows wk) (vp_updL P.B P.rows b) P.L P.wk (P.rows + 1) P.rin P.stp P.run P.lat) ++ (FW ad k F ++ TW ad k T)) (va_A (PW ad k P ++ (FW ad k F ++ TW ad k T)) sz)) 0 0 (va_A (PW ad k P ++ (FW ad k F ++ TW ad k T)) sz) := by
  refine Met.ofW (cc := bP_addRow) (maxL := 6) (ret := (some .int)) (by decide) rfl ?_
  intro p e s m args below meth c s₁ B hml hv
  obtain ⟨rfl, hsz, hP, hK, hD0, hX⟩ := hv
  have hx := B.exec
  have hb := B.bytes
  have hr := B.returns
  have hts := atoms_spec (ws := wP_addRow) B.pre
  have hta : ∀ w ∈ AW, w.before _ s = true := fun w h => hts w (List.mem_cons_of_mem _ h)
  have hown : s.vm.findClass RP = some m.cls := findClass_of_methodNamed B.named
  have hlocks := B.notSynchronized
  subst hsz
  have hD := hD0.self (sz := s.heap.size)
  generalize hAe : va_A (PW ad k P ++ (FW ad k F ++ TW ad k T)) s.heap.size = A at hD ⊢
  have hA : ∀ q : Nat, s.heap.size ≤ q → A q := fun q h => by rw [← hAe]; exact Or.inr h
  have hS : va_S A s.heap s.heap [] := va_S.rf
  have hl := lv_entry ([.ref (ad 7), .int kd, .int wk, .long b]) (n := 6) (Nat.le_of_ble_eq_true rfl)
  rw [lg_entry_eq]
  generalize (lg_sl ([.ref (ad 7), .int kd, .int wk, .long b]) ++ List.replicate (6 - (lg_sl ([.ref (ad 7), .int kd, .int wk, .long b])).length) Slot.unset).toArray = ls at hl ⊢
  have hl : lv_has ls 6 [(0, .ref (ad 7)), (1, .int kd), (2, .int wk), (3, .long b)] := hl
  refine lv_aload_n hx hb dP_addRow_0 rfl (lv_at hl 0 rfl) ?_
  refine va_get (D := (dC, dI)) (ci := 1) (v := .int (nI P.rows)) (C := RP) (T := FP) (N := 12) hx hb hta iP hown hK hP 0 rfl rfl 7 (by decide) (hta _ m_70) (fun _ h9 => h9) rfl dP_addRow_1 ?_
  refine lv_istore (lv' := [(5, .int (nI P.rows)), (0, .ref (ad 7)), (1, .int kd), (2, .int wk), (3, .long b)]) hx hb dP_addRow_4 hl (by decide) rfl (fun ls hl => ?_)
  refine lv_aload_n hx hb dP_addRow_6 rfl (lv_at hl 1 rfl) ?_
  refine va_get (D := (dC, dI)) (ci := 1) (v := .ref (ad 8)) (C := RP) (T := FP) (N := 12) hx hb hta iP hown hK hP 0 rfl rfl 1 (by decide) (hta _ m_64) (fun _ h9 => h9) rfl dP_addRow_7 ?_
  refine lv_iload hx hb dP_addRow_10 (lv_at hl 0 rfl) ?_
  refine lv_iload_n hx hb dP_addRow_12 rfl (lv_at hl 2 rfl) ?_
  refine na_iast hx hb hK hP hD hS 1 0 rfl rfl (i := P.rows) (x := kd) (by omega) (by decide) dP_addRow_13 (fun H locs hP hD hS => ?_)
  have hP : va_P (dC, dI) vwCl (PW ad k (ps (upd P.K P.rows kd) P.V P.B P.L P.wk P.rows P.rin P.stp P.run P.lat) ++ (FW ad k F ++ TW ad k T)) H := hP
  have hD : va_D A (PW ad k (ps (upd P.K P.rows kd) P.V P.B P.L P.wk P.rows P.rin P.stp P.run P.lat) ++ (FW ad k F ++ TW ad k T)) := hD
  refine lv_aload_n hx hb dP_addRow_14 rfl (lv_at hl 1 rfl) ?_
  refine va_get (D := (dC, dI)) (ci := 1) (v := .ref (ad 9)) (C := RP) (T := FP) (N := 12) hx hb hta iP hown hK hP 0 rfl rfl 2 (by decide) (hta _ m_65) (fun _ h9 => h9) rfl dP_addRow_15 ?_
  refine lv_iload hx hb dP_addRow_18 (lv_at hl 0 rfl) ?_
  refine lv_iload_n hx hb dP_addRow_20 rfl (lv_at hl 3 rfl) ?_
  refine na_iast hx hb hK hP hD hS 2 1 rfl rfl (i := P.rows) (x := wk) (by omega) (by decide) dP_addRow_21 (fun H locs hP hD hS => ?_)
  have hP : va_P (dC, dI) vwCl (PW ad k (ps (upd P.K P.rows kd) (upd P.V P.rows wk) P.B P.L P.wk P.rows P.rin P.stp P.run P.lat) ++ (FW ad k F ++ TW ad k T)) H := hP
  have hD : va_D A (PW ad k (ps (upd P.K P.rows kd) (upd P.V P.rows wk) P.B P.L P.wk P.rows P.rin P.stp P.run P.lat) ++ (FW ad k F ++ TW ad k T)) := hD
  refine lv_aload_n hx hb dP_addRow_22 rfl (lv_at hl 1 rfl) ?_
  refine va_get (D := (dC, dI)) (ci := 1) (v := .ref (ad 10)) (C := RP) (T := FP) (N := 12) hx hb hta iP hown hK hP 0 rfl rfl 3 (by decide) (hta _ m_66) (fun _ h9 => h9) rfl dP_addRow_23 ?_
  refine lv_iload hx hb dP_addRow_26 (lv_at hl 0 rfl) ?_
  refine lv_lload_n hx hb dP_addRow_28 rfl (lv_at hl 4 rfl) ?_
  refine na_last hx hb hK hP hD hS 3 2 rfl rfl (i := P.rows) (x := b) (by omega) (by decide) dP_addRow_29 (fun H locs hP hD hS => ?_)
  have hP : va_P (dC, dI) vwCl (PW ad k (ps (upd P.K P.rows kd) (upd P.V P.rows wk) (vp_updL P.B P.rows b) P.L P.wk P.rows P.rin P.stp P.run P.lat) ++ (FW ad k F ++ TW ad k T)) H := hP
  have hD : va_D A (PW ad k (ps (upd P.K P.rows kd) (upd P.V P.rows wk) (vp_updL P.B P.rows b) P.L P.wk P.rows P.rin P.stp P.run P.lat) ++ (FW ad k F ++ TW ad k T)) := hD
  refine lv_aload_n hx hb dP_addRow_30 rfl (lv_at hl 1 rfl) ?_
  refine lv_dup hx hb dP_addRow_31 rfl ?_
  refine va_get (D := (dC, dI)) (ci := 1) (v := .int (nI P.rows)) (C := RP) (T := FP) (N := 12) hx hb hta iP hown hK hP 0 rfl rfl 7 (by decide) (hta _ m_70) (fun _ h9 => h9) rfl dP_addRow_32 ?_
  refine lv_iconst (v := nI 1) hx hb dP_addRow_35 (by decide) ?_
  refine lv_iadd hx hb dP_addRow_36 ?_
  refine st_i (y := nI (P.rows + 1)) (nI_add _ _) ?_
  refine va_put (D := (dC, dI)) (ci := 1) (v := .int (nI (P.rows + 1))) (ty := .int) (C := RP) (T := FP) (N := 12) hx hb hta iP tP tP_ok nP hown hK hP hD hS 0 rfl rfl 7 (by decide) (hta _ m_70) (fun _ h9 => h9) rfl (by decide +kernel) rfl rfl (Nat.le_of_ble_eq_true rfl) dP_addRow_37 (fun H locs hP hD hS => ?_)
  have hP : va_P (dC, dI) vwCl (PW ad k (ps (upd P.K P.rows kd) (upd P.V P.rows wk) (vp_updL P.B P.rows b) P.L P.wk (P.rows + 1) P.rin P.stp P.run P.lat) ++ (FW ad k F ++ TW ad k T)) H := hP
  have hD : va_D A (PW ad k (ps (upd P.K P.rows kd) (upd P.V P.rows wk) (vp_updL P.B P.rows b) P.L P.wk (P.rows + 1) P.rin P.stp P.run P.lat) ++ (FW ad k F ++ TW ad k T)) := hD
  refine lv_iload hx hb dP_addRow_40 (lv_at hl 0 rfl) ?_
  exact W.iret (v := nI P.rows) hx hb hr (fun t ht hW => ⟨rfl, by rw [ht]; exact hP, hS.F ht⟩) hS.2.2 dP_addRow_42

set_option maxHeartbeats 4000000 in
set_option maxRecDepth 100000 in
theorem c_P_bringRow (l : Launch) (dC : Nat → ClassId) (dI : Nat → Nat → Nat) (ad : Nat → Nat) (k : Nat → ClassId) (P : PS) (F : Nat → Int32) (T : TS) (sz : Nat) (r : Nat) (hw : T.w ≤ 12) (hh : T.h ≤ 24) (hr9 : r < 12) : Met l yP_bringRow wP_bringRow ({ frames := 3, cells := 0, slots := 0, locals := 73 }) (wPc [.ref (ad 7), .int (nI r)] sz (dC, dI) vwCl (PW ad k P ++ (FW ad k F ++ TW ad k T)) (PK k ++ (FK k ++ TK k)) nW) (wQ (some (.int (bI (brM P.K P.B P.L F T r).1))) (dC, dI) vwCl (PW ad k (ps P.K P.V P.B ((brM P.K P.B P.L F T r).2.2) P.wk P.rows P.rin P.stp P.run P.lat) ++ (FW ad k F ++ TW ad k ((brM P.K P.B P.L F T r).2.1))) (va_A (PW ad k P ++ (FW ad k F ++ TW ad k T)) sz)) 0 0 (va_A (PW ad k P ++ (FW ad k F ++ TW ad k T)) sz) := by
  refine Met.ofW (cc := bP_bringRow) (maxL := 3) (ret := (some .boolean)) (by decide) rfl ?_
  intro p e s m args below meth c s₁ B hml hv
  obtain ⟨rfl, hsz, hP, hK, hD0, hX⟩ := hv
  have hx := B.exec
  have hb := B.bytes
  have hr := B.returns
  have hts := atoms_spec (ws := wP_bringRow) B.pre
  have hta : ∀ w ∈ AW, w.before _ s = true := fun w h => hts w (List.mem_cons_of_mem _ h)
  have hown : s.vm.findClass RP = some m.cls := findClass_of_methodNamed B.named
  have hlocks := B.notSynchronized
  subst hsz
  have hD := hD0.self (sz := s.heap.size)
  generalize hAe : va_A (PW ad k P ++ (FW ad k F ++ TW ad k T)) s.heap.size = A at hD ⊢
  have hA : ∀ q : Nat, s.heap.size ≤ q → A q := fun q h => by rw [← hAe]; exact Or.inr h
  have hS : va_S A s.heap s.heap [] := va_S.rf
  have hl := lv_entry ([.ref (ad 7), .int (nI r)]) (n := 3) (Nat.le_of_ble_eq_true rfl)
  rw [lg_entry_eq]
  generalize (lg_sl ([.ref (ad 7), .int (nI r)]) ++ List.replicate (3 - (lg_sl ([.ref (ad 7), .int (nI r)])).length) Slot.unset).toArray = ls at hl ⊢
  have hl : lv_has ls 3 [(0, .ref (ad 7)), (1, .int (nI r))] := hl
  refine lv_aload_n hx hb dP_bringRow_0 rfl (lv_at hl 0 rfl) ?_
  refine va_get (D := (dC, dI)) (ci := 1) (v := .ref (ad 0)) (C := RP) (T := FP) (N := 12) hx hb hta iP hown hK hP 0 rfl rfl 6 (by decide) (hta _ m_69) (fun _ h9 => h9) rfl dP_bringRow_1 ?_
  refine lv_aload_n hx hb dP_bringRow_4 rfl (lv_at hl 0 rfl) ?_
  refine va_get (D := (dC, dI)) (ci := 1) (v := .ref (ad 6)) (C := RP) (T := FP) (N := 12) hx hb hta iP hown hK hP 0 rfl rfl 4 (by decide) (hta _ m_67) (fun _ h9 => h9) rfl dP_bringRow_5 ?_
  refine lv_iload_n hx hb dP_bringRow_8 rfl (lv_at hl 1 rfl) ?_
  refine lv_iconst (v := nI 0) hx hb dP_bringRow_9 (by decide) ?_
  refine rd_call (va_runS (As := [.int (nI r), .int (nI 0)]) (rest := [.ref (ad 6), .ref (ad 0)]) ⟨hx, hb, hml, hown, hta⟩ (c_P_factorPlace l dC dI ad k r 0) (cwS 2 hta (gS m_108 m_109 m_1 m_110) rfl rfl rfl (by decide +kernel) ⟨Nat.le_of_ble_eq_true rfl, Nat.le_of_ble_eq_true rfl⟩) (rd_S xT_ok trivial (hK.sub [] rfl) va_P_nil) rfl rfl hl.1 rfl (lv_room (Nat.le_of_ble_eq_true rfl)) dP_bringRow_10 ⟨Nat.zero_le _, Nat.zero_le _⟩) ?_
  refine W.eq (g2 := F0 m 13 ls [.int (nI (r * 12 + 0)), .ref (ad 6), .ref (ad 0)]) rfl ?_
  refine lv_aload_n hx hb dP_bringRow_13 rfl (lv_at hl 0 rfl) ?_
  refine va_get (D := (dC, dI)) (ci := 1) (v := .ref (ad 10)) (C := RP) (T := FP) (N := 12) hx hb hta iP hown hK hP 0 rfl rfl 3 (by decide) (hta _ m_66) (fun _ h9 => h9) rfl dP_bringRow_14 ?_
  refine lv_iload_n hx hb dP_bringRow_17 rfl (lv_at hl 1 rfl) ?_
  refine na_lald hx hb hK hP 3 2 rfl rfl (i := r) (by omega) (by decide) dP_bringRow_18 ?_
  refine wr_call (X := PW ad k P) (va_runVN (As := [.ref (ad 6), .int (nI (r * 12 + 0)), .long (P.B r)]) (rest := []) ⟨hx, hb, hml, hown, hta⟩ (c_T_tell l dC dI ad k F T s.heap.size (r * 12 + 0) (P.B r) (by first | omega | exact hw | exact hh) (by first | omega | exact hw | exact hh) (by first | omega | exact hw | exact hh)) ⟨(va_cnB 3 hta (gC m_374) rfl rfl rfl (hX _ nw_10) (hta _ m_2) (by decide +kernel) ⟨Nat.le_of_ble_eq_true rfl, Nat.le_of_ble_eq_true rfl⟩), hta _ m_373, hta _ mp_23⟩ (wr_V xT_ok trivial (hK.sub [4, 5, 6, 7, 8, 9] rfl) (hP.sub [5, 6, 7, 8, 9, 10, 11] rfl) (hD.sub [5, 6, 7, 8, 9, 10, 11] (by decide) rfl) (ci := 0) (q0 := 1) rfl rfl) rfl rfl hl.1 rfl (lv_room (Nat.le_of_ble_eq_true rfl)) dP_bringRow_19 ⟨Nat.zero_le _, Nat.zero_le _⟩) hP hD hS hA rfl (fun H locs hP hD hS => ?_)
  have hP : va_P (dC, dI) vwCl (PW ad k P ++ (FW ad k F ++ TW ad k (ts T.C T.I T.O (teM T F (r * 12 + 0) (P.B r)) T.S T.w T.h T.d))) H := hP
  have hD : va_D A (PW ad k P ++ (FW ad k F ++ TW ad k (ts T.C T.I T.O (teM T F (r * 12 + 0) (P.B r)) T.S T.w T.h T.d))) := hD
  refine W.eq (g2 := F0 m 22 ls []) rfl ?_
  refine lv_aload_n hx hb dP_bringRow_22 rfl (lv_at hl 0 rfl) ?_
  refine va_get (D := (dC, dI)) (ci := 1) (v := .ref (ad 0)) (C := RP) (T := FP) (N := 12) hx hb hta iP hown hK hP 0 rfl rfl 6 (by decide) (hta _ m_69) (fun _ h9 => h9) rfl dP_bringRow_23 ?_
  refine rd_call (va_runVN (As := []) (rest := []) ⟨hx, hb, hml, hown, hta⟩ (c_T_toldFits l dC dI ad k (ts T.C T.I T.O (teM T F (r * 12 + 0) (P.B r)) T.S T.w T.h T.d) (by first | omega | exact hw | exact hh)) ⟨(va_cnB 0 hta (gC m_385) rfl rfl rfl (hX _ nw_11) (hta _ m_2) (by decide +kernel) ⟨Nat.le_of_ble_eq_true rfl, Nat.le_of_ble_eq_true rfl⟩), hta _ m_384, hta _ mp_25⟩ (rd_V xT_ok trivial (hK.sub [5, 6, 7, 8, 9] rfl) (hP.sub [6, 7, 8, 9, 10, 11] rfl) (ci := 0) (q0 := 0) rfl rfl) rfl rfl hl.1 rfl (lv_room (Nat.le_of_ble_eq_true rfl)) dP_bringRow_26 ⟨Nat.zero_le _, Nat.zero_le _⟩) ?_
  refine W.eq (g2 := F0 m 29 ls [.int (bI (allF (teM T F (r * 12 + 0) (P.B r)) 0 (T.w + 1)))]) rfl ?_
  refine lb_ne (tgt := 34) hx hb dP_bringRow_29 (by decide) (fun hc => ?_) (fun hc => ?_)
  · have e9 : brM P.K P.B P.L F T r = (true, brL P.K r 0 (lnM P.K r) (teT T F (r * 12 + 0) (P.B r)), upd P.L r (nI T.h)) := if_pos hc
    refine lv_aload_n hx hb dP_bringRow_34 rfl (lv_at hl 0 rfl) ?_
    refine va_get (D := (dC, dI)) (ci := 1) (v := .ref (ad 11)) (C := RP) (T := FP) (N := 12) hx hb hta iP hown hK hP 0 rfl rfl 5 (by decide) (hta _ m_68) (fun _ h9 => h9) rfl dP_bringRow_35 ?_
    refine lv_iload_n hx hb dP_bringRow_38 rfl (lv_at hl 1 rfl) ?_
    refine lv_aload_n hx hb dP_bringRow_39 rfl (lv_at hl 0 rfl) ?_
    refine va_get (D := (dC, dI)) (ci := 1) (v := .ref (ad 0)) (C := RP) (T := FP) (N := 12) hx hb hta iP hown hK hP 0 rfl rfl 6 (by decide) (hta _ m_69) (fun _ h9 => h9) rfl dP_bringRow_40 ?_
    refine va_getN (D := (dC, dI)) (ci := 0) (v := .int (nI T.h)) (C := RT) (T := FT) (N := 8) hx hb hta iT hown hK hP 6 rfl rfl 6 (by decide) (va_Nw.use rfl (hX _ nw_3)) (fun _ h9 => h9) rfl dP_bringRow_43 ?_
    refine na_iast hx hb hK hP hD hS 4 3 rfl rfl (i := r) (x := nI T.h) (by omega) (by decide) dP_bringRow_46 (fun H locs hP hD hS => ?_)
    have hP : va_P (dC, dI) vwCl (PW ad k (ps P.K P.V P.B (upd P.L r (nI T.h)) P.wk P.rows P.rin P.stp P.run P.lat) ++ (FW ad k F ++ TW ad k (ts T.C T.I T.O (teM T F (r * 12 + 0) (P.B r)) T.S T.w T.h T.d))) H := hP
    have hD : va_D A (PW ad k (ps P.K P.V P.B (upd P.L r (nI T.h)) P.wk P.rows P.rin P.stp P.run P.lat) ++ (FW ad k F ++ TW ad k (ts T.C T.I T.O (teM T F (r * 12 + 0) (P.B r)) T.S T.w T.h T.d))) := hD
    refine lv_iconst (v := nI 0) hx hb dP_bringRow_47 (by decide) ?_
    refine lv_istore_n (lv' := [(2, .int (nI 0)), (0, .ref (ad 7)), (1, .int (nI r))]) hx hb dP_bringRow_48 rfl hl (by decide) rfl (fun ls hl => ?_)
    have loop49 : ∀ (n : Nat) (j : Nat) (T2 : TS) (H : Heap) (locs : List Loc) (ls : Array Slot), (j + n = lnM P.K r) → (T2.w = T.w) → (T2.h ≤ 24) → (brL P.K r j n T2 = brL P.K r 0 (lnM P.K r) (teT T F (r * 12 + 0) (P.B r))) → va_P (dC, dI) vwCl (PW ad k (ps P.K P.V P.B (upd P.L r (nI T.h)) P.wk P.rows P.rin P.stp P.run P.lat) ++ (FW ad k F ++ TW ad k T2)) H → va_D A (PW ad k (ps P.K P.V P.B (upd P.L r (nI T.h)) P.wk P.rows P.rin P.stp P.run P.lat) ++ (FW ad k F ++ TW ad k T2)) → va_S A s.heap H locs → lv_has ls 3 [(2, .int (nI j)), (0, .ref (ad 7)), (1, .int (nI r))] → W p l e (headSpec wP_bringRow ({ frames := 3, cells := 0, slots := 0, locals := 73 })).room s m ([.ref (ad 7), .int (nI r)] : List Value).toArray below meth c H locs 0 0 (MQ below (wQ (some (.int (bI (brM P.K P.B P.L F T r).1))) (dC, dI) vwCl (PW ad k (ps P.K P.V P.B ((brM P.K P.B P.L F T r).2.2) P.wk P.rows P.rin P.stp P.run P.lat) ++ (FW ad k F ++ TW ad k ((brM P.K P.B P.L F T r).2.1))) A) ([.ref (ad 7), .int (nI r)] : List Value).toArray s 0 0 A) (F0 m 49 ls []) := by
      intro n
      induction n with
      | zero =>
        intro j T2 H locs ls hn hw2 hh2 hq hP hD hS hl
        have hln := lnM_le P.K r
        refine lv_iload_n hx hb dP_bringRow_49 rfl (lv_at hl 0 rfl) ?_
        refine lv_aload_n hx hb dP_bringRow_50 rfl (lv_at hl 1 rfl) ?_
        refine lv_iload_n hx hb dP_bringRow_51 rfl (lv_at hl 2 rfl) ?_
        refine rd_call (va_runV (As := [.int (nI r)]) (rest := [.int (nI j)]) ⟨hx, hb, hml, hown, hta⟩ (c_P_linesOf l dC dI ad k (ps P.K P.V P.B (upd P.L r (nI T.h)) P.wk P.rows P.rin P.stp P.run P.lat) F T2 r (by first | omega | exact hw | exact hh)) (cwV 1 hta (gV m_326 m_328 mp_15 m_1 m_329) rfl rfl rfl (by decide +kernel) ⟨Nat.le_of_ble_eq_true rfl, Nat.le_of_ble_eq_true rfl⟩) (rd_V nW_ok hX hK hP (ci := 1) (q0 := 0) rfl rfl) rfl rfl hl.1 rfl (lv_room (Nat.le_of_ble_eq_true rfl)) dP_bringRow_52 ⟨Nat.zero_le _, Nat.zero_le _⟩) ?_
        refine W.eq (g2 := F0 m 55 ls [.int (nI (lnM P.K r)), .int (nI j)]) rfl ?_
        refine ni_ge (tgt := 77) hx hb dP_bringRow_55 (by decide) (by omega) (by omega) (fun c_1 => ?_) (fun c_1 => ?_)
        · refine lv_iconst (v := 1) hx hb dP_bringRow_77 (by decide) ?_
          exact W.zret (v := 1) hx hb hr (rfl) (fun t ht hW => ⟨congrArg (fun z => Outcome.returned (some (.int z))) (by rw [e9]; rfl), by rw [ht]; exact (by have hq3 : T2 = brL P.K r 0 (lnM P.K r) (teT T F (r * 12 + 0) (P.B r)) := hq; rw [hq3] at hP; rw [e9]; exact hP), hS.F ht⟩) hS.2.2 dP_bringRow_78
        · exfalso; omega
      | succ n ih =>
        intro j T2 H locs ls hn hw2 hh2 hq hP hD hS hl
        have hln := lnM_le P.K r
        refine lv_iload_n hx hb dP_bringRow_49 rfl (lv_at hl 0 rfl) ?_
        refine lv_aload_n hx hb dP_bringRow_50 rfl (lv_at hl 1 rfl) ?_
        refine lv_iload_n hx hb dP_bringRow_51 rfl (lv_at hl 2 rfl) ?_
        refine rd_call (va_runV (As := [.int (nI r)]) (rest := [.int (nI j)]) ⟨hx, hb, hml, hown, hta⟩ (c_P_linesOf l dC dI ad k (ps P.K P.V P.B (upd P.L r (nI T.h)) P.wk P.rows P.rin P.stp P.run P.lat) F T2 r (by first | omega | exact hw | exact hh)) (cwV 1 hta (gV m_326 m_328 mp_15 m_1 m_329) rfl rfl rfl (by decide +kernel) ⟨Nat.le_of_ble_eq_true rfl, Nat.le_of_ble_eq_true rfl⟩) (rd_V nW_ok hX hK hP (ci := 1) (q0 := 0) rfl rfl) rfl rfl hl.1 rfl (lv_room (Nat.le_of_ble_eq_true rfl)) dP_bringRow_52 ⟨Nat.zero_le _, Nat.zero_le _⟩) ?_
        refine W.eq (g2 := F0 m 55 ls [.int (nI (lnM P.K r)), .int (nI j)]) rfl ?_
        refine ni_ge (tgt := 77) hx hb dP_bringRow_55 (by decide) (by omega) (by omega) (fun c_2 => ?_) (fun c_2 => ?_)
        · exfalso; omega
        · refine lv_aload_n hx hb dP_bringRow_58 rfl (lv_at hl 1 rfl) ?_
          refine va_get (D := (dC, dI)) (ci := 1) (v := .ref (ad 0)) (C := RP) (T := FP) (N := 12) hx hb hta iP hown hK hP 0 rfl rfl 6 (by decide) (hta _ m_69) (fun _ h9 => h9) rfl dP_bringRow_59 ?_
          refine lv_aload_n hx hb dP_bringRow_62 rfl (lv_at hl 1 rfl) ?_
          refine lv_iload_n hx hb dP_bringRow_63 rfl (lv_at hl 2 rfl) ?_
          refine lv_iload_n hx hb dP_bringRow_64 rfl (lv_at hl 0 rfl) ?_
          refine rd_call (va_runV (As := [.int (nI r), .int (nI j)]) (rest := [.ref (ad 0)]) ⟨hx, hb, hml, hown, hta⟩ (c_P_signOf l dC dI ad k (ps P.K P.V P.B (upd P.L r (nI T.h)) P.wk P.rows P.rin P.stp P.run P.lat) F T2 r j (by first | omega | exact hw | exact hh) (by first | omega | exact hw | exact hh)) (cwV 2 hta (gV m_334 m_336 mp_17 m_1 m_337) rfl rfl rfl (by decide +kernel) ⟨Nat.le_of_ble_eq_true rfl, Nat.le_of_ble_eq_true rfl⟩) (rd_V nW_ok hX hK hP (ci := 1) (q0 := 0) rfl rfl) rfl rfl hl.1 rfl (lv_room (Nat.le_of_ble_eq_true rfl)) dP_bringRow_65 ⟨Nat.zero_le _, Nat.zero_le _⟩) ?_
          refine W.eq (g2 := F0 m 68 ls [.int (sgM P.K r j), .ref (ad 0)]) rfl ?_
          refine wr_call (X := PW ad k (ps P.K P.V P.B (upd P.L r (nI T.h)) P.wk P.rows P.rin P.stp P.run P.lat) ++ FW ad k F) (va_runVN (As := [.int (sgM P.K r j)]) (rest := []) ⟨hx, hb, hml, hown, hta⟩ (c_T_bringTold l dC dI ad k T2 H.size (sgM P.K r j) (by first | omega | exact hw | exact hh) (by first | omega | exact hw | exact hh)) ⟨(va_cnB 1 hta (gC m_389) rfl rfl rfl (hX _ nw_12) (hta _ m_2) (by decide +kernel) ⟨Nat.le_of_ble_eq_true rfl, Nat.le_of_ble_eq_true rfl⟩), hta _ m_388, hta _ mp_26⟩ (wr_V xT_ok trivial (hK.sub [5, 6, 7, 8, 9] rfl) (hP.sub [6, 7, 8, 9, 10, 11] rfl) (hD.sub [6, 7, 8, 9, 10, 11] (by decide) rfl) (ci := 0) (q0 := 0) rfl rfl) rfl rfl hl.1 rfl (lv_room (Nat.le_of_ble_eq_true rfl)) dP_bringRow_68 ⟨Nat.zero_le _, Nat.zero_le _⟩) hP hD hS hA rfl (fun H locs hP hD hS => ?_)
          have hP : va_P (dC, dI) vwCl (PW ad k (ps P.K P.V P.B (upd P.L r (nI T.h)) P.wk P.rows P.rin P.stp P.run P.lat) ++ (FW ad k F ++ TW ad k (btM T2 (sgM P.K r j)))) H := hP
          have hD : va_D A (PW ad k (ps P.K P.V P.B (upd P.L r (nI T.h)) P.wk P.rows P.rin P.stp P.run P.lat) ++ (FW ad k F ++ TW ad k (btM T2 (sgM P.K r j)))) := hD
          refine W.eq (g2 := F0 m 71 ls []) rfl ?_
          refine lv_iinc (v := nI (j + 1)) (lv' := [(2, .int (nI (j + 1))), (0, .ref (ad 7)), (1, .int (nI r))]) hx hb dP_bringRow_71 hl (k := 0) rfl (nI_add j 1) (by decide) rfl (fun ls hl => ?_)
          refine lv_goto (tgt := 49) hx hb dP_bringRow_74 (by decide) ?_
          exact ih (j + 1) (btM T2 (sgM P.K r j)) H locs ls (by omega) (by rw [btM_w]; exact hw2) (btM_h hh2) (by rw [← hq]; rfl) hP hD hS (lv_sub hl [0, 1, 2] rfl)
    exact loop49 (lnM P.K r) 0 (teT T F (r * 12 + 0) (P.B r)) H locs ls (by omega) rfl hh rfl hP hD hS (lv_sub hl [0, 1, 2] rfl)
  · have e9 : brM P.K P.B P.L F T r = (false, teT T F (r * 12 + 0) (P.B r), P.L) := if_neg (by rw [show allF (teT T F (r * 12 + 0) (P.B r)).G 0 (T.w + 1) = false from hc]; decide)
    refine lv_iconst (v := 0) hx hb dP_bringRow_32 (by decide) ?_
    exact W.zret (v := 0) hx hb hr (rfl) (fun t ht hW => ⟨congrArg (fun z => Outcome.returned (some (.int z))) (by rw [e9]; rfl), by rw [ht]; exact (by rw [e9]; exact hP), hS.F ht⟩) hS.2.2 dP_bringRow_33

set_option maxHeartbeats 4000000 in
set_option maxRecDepth 100000 in
theorem c_P_bringRows (l : Launch) (dC : Nat → ClassId) (dI : Nat → Nat → Nat) (ad : Nat → Nat) (k : Nat → ClassId) (P : PS) (F : Nat → Int32) (T : TS) (sz : Nat)  (hw : T.w ≤ 12) (hh : T.h ≤ 24) (hro : P.rows ≤ 12) (hri : P.rin ≤ P.rows) : Met l yP_bringRows wP_bringRows ({ frames := 4, cells := 0, slots := 0, locals := 95 }) (wPc [.ref (ad 7)] sz (dC, dI) vwCl (PW ad k P ++ (FW ad k F ++ TW ad k T)) (PK k ++ (FK k ++ TK k)) nW) (wQ (some (.int (bI (bwL P.K P.B F P.rin (P.rows - P.rin) T P.L P.rin).1))) (dC, dI) vwCl (PW ad k (ps P.K P.V P.B ((bwL P.K P.B F P.rin (P.rows - P.rin) T P.L P.rin).2.2.1) P.wk P.rows ((bwL P.K P.B F P.rin (P.rows - P.rin) T P.L P.rin).2.2.2) P.stp P.run P.lat) ++ (FW ad k F ++ TW ad k ((bwL P.K P.B F P.rin (P.rows - P.rin) T P.L P.rin).2.1))) (va_A (PW ad k P ++ (FW ad k F ++ TW ad k T)) sz)) 0 0 (va_A (PW ad k P ++ (FW ad k F ++ TW ad k T)) sz) := by
  refine Met.ofW (cc := bP_bringRows) (maxL := 2) (ret := (some .boolean)) (by decide) rfl ?_
  intro p e s m args below meth c s₁ B hml hv
  obtain ⟨rfl, hsz, hP, hK, hD0, hX⟩ := hv
  have hx := B.exec
  have hb := B.bytes
  have hr := B.returns
  have hts := atoms_spec (ws := wP_bringRows) B.pre
  have hta : ∀ w ∈ AW, w.before _ s = true := fun w h => hts w (List.mem_cons_of_mem _ h)
  have hown : s.vm.findClass RP = some m.cls := findClass_of_methodNamed B.named
  have hlocks := B.notSynchronized
  subst hsz
  have hD := hD0.self (sz := s.heap.size)
  generalize hAe : va_A (PW ad k P ++ (FW ad k F ++ TW ad k T)) s.heap.size = A at hD ⊢
  have hA : ∀ q : Nat, s.heap.size ≤ q → A q := fun q h => by rw [← hAe]; exact Or.inr h
  have hS : va_S A s.heap s.heap [] := va_S.rf
  have hl := lv_entry ([.ref (ad 7)]) (n := 2) (Nat.le_of_ble_eq_true rfl)
  rw [lg_entry_eq]
  generalize (lg_sl ([.ref (ad 7)]) ++ List.replicate (2 - (lg_sl ([.ref (ad 7)])).length) Slot.unset).toArray = ls at hl ⊢
  have hl : lv_has ls 2 [(0, .ref (ad 7))] := hl
  refine lv_aload_n hx hb dP_bringRows_0 rfl (lv_at hl 0 rfl) ?_
  refine va_get (D := (dC, dI)) (ci := 1) (v := .int (nI P.rin)) (C := RP) (T := FP) (N := 12) hx hb hta iP hown hK hP 0 rfl rfl 8 (by decide) (hta _ m_71) (fun _ h9 => h9) rfl dP_bringRows_1 ?_
  refine lv_istore_n (lv' := [(1, .int (nI P.rin)), (0, .ref (ad 7))]) hx hb dP_bringRows_4 rfl hl (by decide) rfl (fun ls hl => ?_)
  have loop5 : ∀ (n : Nat) (i : Nat) (T2 : TS) (L : Nat → Int32) (H : Heap) (locs : List Loc) (ls : Array Slot), (i + n = P.rows) → (T2.w = T.w) → (T2.h ≤ 24) → (bwL P.K P.B F i n T2 L i = bwL P.K P.B F P.rin (P.rows - P.rin) T P.L P.rin) → va_P (dC, dI) vwCl (PW ad k (ps P.K P.V P.B L P.wk P.rows i P.stp P.run P.lat) ++ (FW ad k F ++ TW ad k T2)) H → va_D A (PW ad k (ps P.K P.V P.B L P.wk P.rows i P.stp P.run P.lat) ++ (FW ad k F ++ TW ad k T2)) → va_S A s.heap H locs → lv_has ls 2 [(1, .int (nI i)), (0, .ref (ad 7))] → W p l e (headSpec wP_bringRows ({ frames := 4, cells := 0, slots := 0, locals := 95 })).room s m ([.ref (ad 7)] : List Value).toArray below meth c H locs 0 0 (MQ below (wQ (some (.int (bI (bwL P.K P.B F P.rin (P.rows - P.rin) T P.L P.rin).1))) (dC, dI) vwCl (PW ad k (ps P.K P.V P.B ((bwL P.K P.B F P.rin (P.rows - P.rin) T P.L P.rin).2.2.1) P.wk P.rows ((bwL P.K P.B F P.rin (P.rows - P.rin) T P.L P.rin).2.2.2) P.stp P.run P.lat) ++ (FW ad k F ++ TW ad k ((bwL P.K P.B F P.rin (P.rows - P.rin) T P.L P.rin).2.1))) A) ([.ref (ad 7)] : List Value).toArray s 0 0 A) (F0 m 5 ls []) := by
    intro n
    induction n with
    | zero =>
      intro i T2 L H locs ls hn hw2 hh2 hq hP hD hS hl
      refine lv_iload_n hx hb dP_bringRows_5 rfl (lv_at hl 0 rfl) ?_
      refine lv_aload_n hx hb dP_bringRows_6 rfl (lv_at hl 1 rfl) ?_
      refine va_get (D := (dC, dI)) (ci := 1) (v := .int (nI P.rows)) (C := RP) (T := FP) (N := 12) hx hb hta iP hown hK hP 0 rfl rfl 7 (by decide) (hta _ m_70) (fun _ h9 => h9) rfl dP_bringRows_7 ?_
      refine ni_ge (tgt := 36) hx hb dP_bringRows_10 (by decide) (by omega) (by omega) (fun c_1 => ?_) (fun c_1 => ?_)
      · refine lv_iconst (v := 1) hx hb dP_bringRows_36 (by decide) ?_
        exact W.zret (v := 1) hx hb hr (rfl) (fun t ht hW => ⟨congrArg (fun z => Outcome.returned (some (.int z))) (by rw [← hq]; rfl), by rw [ht]; exact (by rw [← hq]; exact hP), hS.F ht⟩) hS.2.2 dP_bringRows_37
      · exfalso; omega
    | succ n ih =>
      intro i T2 L H locs ls hn hw2 hh2 hq hP hD hS hl
      refine lv_iload_n hx hb dP_bringRows_5 rfl (lv_at hl 0 rfl) ?_
      refine lv_aload_n hx hb dP_bringRows_6 rfl (lv_at hl 1 rfl) ?_
      refine va_get (D := (dC, dI)) (ci := 1) (v := .int (nI P.rows)) (C := RP) (T := FP) (N := 12) hx hb hta iP hown hK hP 0 rfl rfl 7 (by decide) (hta _ m_70) (fun _ h9 => h9) rfl dP_bringRows_7 ?_
      refine ni_ge (tgt := 36) hx hb dP_bringRows_10 (by decide) (by omega) (by omega) (fun c_2 => ?_) (fun c_2 => ?_)
      · exfalso; omega
      · refine lv_aload_n hx hb dP_bringRows_13 rfl (lv_at hl 1 rfl) ?_
        refine lv_iload_n hx hb dP_bringRows_14 rfl (lv_at hl 0 rfl) ?_
        refine wr_call (X := ([] : va_W)) (va_runV (As := [.int (nI i)]) (rest := []) ⟨hx, hb, hml, hown, hta⟩ (c_P_bringRow l dC dI ad k (ps P.K P.V P.B L P.wk P.rows i P.stp P.run P.lat) F T2 H.size i (by first | omega | exact hw | exact hh) (by first | omega | exact hw | exact hh) (by first | omega | exact hw | exact hh)) (cwV 1 hta (gV m_367 m_369 mp_22 m_1 m_370) rfl rfl rfl (by decide +kernel) ⟨Nat.le_of_ble_eq_true rfl, Nat.le_of_ble_eq_true rfl⟩) (wr_V nW_ok hX hK hP hD (ci := 1) (q0 := 0) rfl rfl) rfl rfl hl.1 rfl (lv_room (Nat.le_of_ble_eq_true rfl)) dP_bringRows_15 ⟨Nat.zero_le _, Nat.zero_le _⟩) hP hD hS hA rfl (fun H locs hP hD hS => ?_)
        have hP : va_P (dC, dI) vwCl (PW ad k (ps P.K P.V P.B ((brM P.K P.B L F T2 i).2.2) P.wk P.rows i P.stp P.run P.lat) ++ (FW ad k F ++ TW ad k ((brM P.K P.B L F T2 i).2.1))) H := hP
        have hD : va_D A (PW ad k (ps P.K P.V P.B ((brM P.K P.B L F T2 i).2.2) P.wk P.rows i P.stp P.run P.lat) ++ (FW ad k F ++ TW ad k ((brM P.K P.B L F T2 i).2.1))) := hD
        refine W.eq (g2 := F0 m 18 ls [.int (bI (brM P.K P.B L F T2 i).1)]) rfl ?_
        refine lb_ne (tgt := 23) hx hb dP_bringRows_18 (by decide) (fun hc => ?_) (fun hc => ?_)
        · refine lv_aload_n hx hb dP_bringRows_23 rfl (lv_at hl 1 rfl) ?_
          refine lv_iload_n hx hb dP_bringRows_24 rfl (lv_at hl 0 rfl) ?_
          refine lv_iconst (v := nI 1) hx hb dP_bringRows_25 (by decide) ?_
          refine lv_iadd hx hb dP_bringRows_26 ?_
          refine st_i (y := nI (i + 1)) (nI_add _ _) ?_
          refine va_put (D := (dC, dI)) (ci := 1) (v := .int (nI (i + 1))) (ty := .int) (C := RP) (T := FP) (N := 12) hx hb hta iP tP tP_ok nP hown hK hP hD hS 0 rfl rfl 8 (by decide) (hta _ m_71) (fun _ h9 => h9) rfl (by decide +kernel) rfl rfl (Nat.le_of_ble_eq_true rfl) dP_bringRows_27 (fun H locs hP hD hS => ?_)
          have hP : va_P (dC, dI) vwCl (PW ad k (ps P.K P.V P.B ((brM P.K P.B L F T2 i).2.2) P.wk P.rows (i + 1) P.stp P.run P.lat) ++ (FW ad k F ++ TW ad k ((brM P.K P.B L F T2 i).2.1))) H := hP
          have hD : va_D A (PW ad k (ps P.K P.V P.B ((brM P.K P.B L F T2 i).2.2) P.wk P.rows (i + 1) P.stp P.run P.lat) ++ (FW ad k F ++ TW ad k ((brM P.K P.B L F T2 i).2.1))) := hD
          refine lv_iinc (v := nI (i + 1)) (lv' := [(1, .int (nI (i + 1))), (0, .ref (ad 7))]) hx hb dP_bringRows_30 hl (k := 0) rfl (nI_add i 1) (by decide) rfl (fun ls hl => ?_)
          refine lv_goto (tgt := 5) hx hb dP_bringRows_33 (by decide) ?_
          exact ih (i + 1) (brM P.K P.B L F T2 i).2.1 (brM P.K P.B L F T2 i).2.2 H locs ls (by omega) (by rw [brM_w]; exact hw2) (brM_h hh2) (by rw [← hq]; simp [bwL, hc]) hP hD hS (lv_sub hl [0, 1] rfl)
        · refine lv_iconst (v := 0) hx hb dP_bringRows_21 (by decide) ?_
          exact W.zret (v := 0) hx hb hr (rfl) (fun t ht hW => ⟨congrArg (fun z => Outcome.returned (some (.int z))) (by rw [← hq]; simp [bwL, hc, bI]), by rw [ht]; exact (by rw [← hq]; simpa [bwL, hc] using hP), hS.F ht⟩) hS.2.2 dP_bringRows_22
  exact loop5 (P.rows - P.rin) P.rin T P.L s.heap [] ls (by omega) rfl hh rfl hP hD hS (lv_sub hl [0, 1] rfl)

set_option maxHeartbeats 4000000 in
set_option maxRecDepth 100000 in
theorem c_P_doSteps (l : Launch) (dC : Nat → ClassId) (dI : Nat → Nat → Nat) (ad : Nat → Nat) (k : Nat → ClassId) (P : PS) (F : Nat → Int32) (T : TS) (sz : Nat) (mo : Nat) (hw : T.w ≤ 12) (hh : T.h ≤ 24) (hmo : mo ≤ 1000) : Met l yP_doSteps wP_doSteps ({ frames := 3, cells := 0, slots := 0, locals := 89 }) (wPc [.ref (ad 7), .int (nI mo)] sz (dC, dI) vwCl (PW ad k P ++ (FW ad k F ++ TW ad k T)) (PK k ++ (FK k ++ TK k)) nW) (wQ (some (.int ((dsL (mo + 1) T P.stp).1))) (dC, dI) vwCl (PW ad k (ps P.K P.V P.B P.L P.wk P.rows P.rin ((dsL (mo + 1) T P.stp).2.2) P.run P.lat) ++ (FW ad k F ++ TW ad k ((dsL (mo + 1) T P.stp).2.1))) (va_A (PW ad k P ++ (FW ad k F ++ TW ad k T)) sz)) 0 0 (va_A (PW ad k P ++ (FW ad k F ++ TW ad k T)) sz) := by
  refine Met.ofW (cc := bP_doSteps) (maxL := 5) (ret := (some .int)) (by decide) rfl ?_
  intro p e s m args below meth c s₁ B hml hv
  obtain ⟨rfl, hsz, hP, hK, hD0, hX⟩ := hv
  have hx := B.exec
  have hb := B.bytes
  have hr := B.returns
  have hts := atoms_spec (ws := wP_doSteps) B.pre
  have hta : ∀ w ∈ AW, w.before _ s = true := fun w h => hts w (List.mem_cons_of_mem _ h)
  have hown : s.vm.findClass RP = some m.cls := findClass_of_methodNamed B.named
  have hlocks := B.notSynchronized
  subst hsz
  have hD := hD0.self (sz := s.heap.size)
  generalize hAe : va_A (PW ad k P ++ (FW ad k F ++ TW ad k T)) s.heap.size = A at hD ⊢
  have hA : ∀ q : Nat, s.heap.size ≤ q → A q := fun q h => by rw [← hAe]; exact Or.inr h
  have hS : va_S A s.heap s.heap [] := va_S.rf
  have hl := lv_entry ([.ref (ad 7), .int (nI mo)]) (n := 5) (Nat.le_of_ble_eq_true rfl)
  rw [lg_entry_eq]
  generalize (lg_sl ([.ref (ad 7), .int (nI mo)]) ++ List.replicate (5 - (lg_sl ([.ref (ad 7), .int (nI mo)])).length) Slot.unset).toArray = ls at hl ⊢
  have hl : lv_has ls 5 [(0, .ref (ad 7)), (1, .int (nI mo))] := hl
  refine lv_iconst (v := nI 0) hx hb dP_doSteps_0 (by decide) ?_
  refine lv_istore_n (lv' := [(2, .int (nI 0)), (0, .ref (ad 7)), (1, .int (nI mo))]) hx hb dP_doSteps_1 rfl hl (by decide) rfl (fun ls hl => ?_)
  have loop2 : ∀ (n : Nat) (i : Nat) (T2 : TS) (sp : Int32) (H : Heap) (locs : List Loc) (ls : Array Slot), (i + n = mo + 1) → (T2.w ≤ 12) → (T2.h ≤ 24) → (dsL n T2 sp = dsL (mo + 1) T P.stp) → va_P (dC, dI) vwCl (PW ad k (ps P.K P.V P.B P.L P.wk P.rows P.rin sp P.run P.lat) ++ (FW ad k F ++ TW ad k T2)) H → va_D A (PW ad k (ps P.K P.V P.B P.L P.wk P.rows P.rin sp P.run P.lat) ++ (FW ad k F ++ TW ad k T2)) → va_S A s.heap H locs → lv_has ls 5 [(2, .int (nI i)), (0, .ref (ad 7)), (1, .int (nI mo))] → W p l e (headSpec wP_doSteps ({ frames := 3, cells := 0, slots := 0, locals := 89 })).room s m ([.ref (ad 7), .int (nI mo)] : List Value).toArray below meth c H locs 0 0 (MQ below (wQ (some (.int ((dsL (mo + 1) T P.stp).1))) (dC, dI) vwCl (PW ad k (ps P.K P.V P.B P.L P.wk P.rows P.rin ((dsL (mo + 1) T P.stp).2.2) P.run P.lat) ++ (FW ad k F ++ TW ad k ((dsL (mo + 1) T P.stp).2.1))) A) ([.ref (ad 7), .int (nI mo)] : List Value).toArray s 0 0 A) (F0 m 2 ls []) := by
    intro n
    induction n with
    | zero =>
      intro i T2 sp H locs ls hn hw2 hh2 hq hP hD hS hl
      refine lv_iload_n hx hb dP_doSteps_2 rfl (lv_at hl 0 rfl) ?_
      refine lv_iload_n hx hb dP_doSteps_3 rfl (lv_at hl 2 rfl) ?_
      refine ni_gt (tgt := 88) hx hb dP_doSteps_4 (by decide) (by omega) (by omega) (fun c_1 => ?_) (fun c_1 => ?_)
      · refine lv_iconst (v := 2) hx hb dP_doSteps_88 (by decide) ?_
        exact W.iret (v := 2) hx hb hr (fun t ht hW => ⟨congrArg (fun z => Outcome.returned (some (.int z))) (by rw [← hq]; rfl), by rw [ht]; exact (by rw [← hq]; exact hP), hS.F ht⟩) hS.2.2 dP_doSteps_89
      · exfalso; omega
    | succ n ih =>
      intro i T2 sp H locs ls hn hw2 hh2 hq hP hD hS hl
      refine lv_iload_n hx hb dP_doSteps_2 rfl (lv_at hl 0 rfl) ?_
      refine lv_iload_n hx hb dP_doSteps_3 rfl (lv_at hl 2 rfl) ?_
      refine ni_gt (tgt := 88) hx hb dP_doSteps_4 (by decide) (by omega) (by omega) (fun c_2 => ?_) (fun c_2 => ?_)
      · exfalso; omega
      · refine lv_aload_n hx hb dP_doSteps_7 rfl (lv_at hl 1 rfl) ?_
        refine va_get (D := (dC, dI)) (ci := 1) (v := .ref (ad 0)) (C := RP) (T := FP) (N := 12) hx hb hta iP hown hK hP 0 rfl rfl 6 (by decide) (hta _ m_69) (fun _ h9 => h9) rfl dP_doSteps_8 ?_
        refine rd_call (va_runVN (As := []) (rest := []) ⟨hx, hb, hml, hown, hta⟩ (c_T_leavingPlace l dC dI ad k T2 (by first | omega | exact hw | exact hh)) ⟨(va_cnB 0 hta (gC m_397) rfl rfl rfl (hX _ nw_13) (hta _ m_2) (by decide +kernel) ⟨Nat.le_of_ble_eq_true rfl, Nat.le_of_ble_eq_true rfl⟩), hta _ m_396, hta _ mp_28⟩ (rd_V xT_ok trivial (hK.sub [5, 6, 7, 8, 9] rfl) (hP.sub [6, 7, 8, 9, 10, 11] rfl) (ci := 0) (q0 := 0) rfl rfl) rfl rfl hl.1 rfl (lv_room (Nat.le_of_ble_eq_true rfl)) dP_doSteps_11 ⟨Nat.zero_le _, Nat.zero_le _⟩) ?_
        refine W.eq (g2 := F0 m 14 ls [.int (enc (lvM T2 1 T2.h none))]) rfl ?_
        refine lv_istore_n (lv' := [(3, .int (enc (lvM T2 1 T2.h none))), (2, .int (nI i)), (0, .ref (ad 7)), (1, .int (nI mo))]) hx hb dP_doSteps_14 rfl hl (by decide) rfl (fun ls hl => ?_)
        refine lv_iload_n hx hb dP_doSteps_15 rfl (lv_at hl 0 rfl) ?_
        refine lv_iconst (v := (-1)) hx hb dP_doSteps_16 (by decide) ?_
        refine en_ne (o := (lvM T2 1 T2.h none)) (tgt := 22) hx hb dP_doSteps_17 (by decide) (fun j h => by have := lvM_lt h; omega) (fun le h1 => ?_) (fun h1 => ?_)
        · rw [h1] at hl
          have hl : lv_has ls 5 [(3, .int (nI le)), (2, .int (nI i)), (0, .ref (ad 7)), (1, .int (nI mo))] := hl
          have hle := lvM_lt h1
          refine lv_aload_n hx hb dP_doSteps_22 rfl (lv_at hl 2 rfl) ?_
          refine va_get (D := (dC, dI)) (ci := 1) (v := .ref (ad 0)) (C := RP) (T := FP) (N := 12) hx hb hta iP hown hK hP 0 rfl rfl 6 (by decide) (hta _ m_69) (fun _ h9 => h9) rfl dP_doSteps_23 ?_
          refine lv_iload_n hx hb dP_doSteps_26 rfl (lv_at hl 0 rfl) ?_
          refine rd_call (va_runVN (As := [.int (nI le)]) (rest := []) ⟨hx, hb, hml, hown, hta⟩ (c_T_enteringPlace l dC dI ad k T2 le (by first | omega | exact hw | exact hh) (by first | omega | exact hw | exact hh)) ⟨(va_cnB 1 hta (gC m_401) rfl rfl rfl (hX _ nw_14) (hta _ m_2) (by decide +kernel) ⟨Nat.le_of_ble_eq_true rfl, Nat.le_of_ble_eq_true rfl⟩), hta _ m_400, hta _ mp_29⟩ (rd_V xT_ok trivial (hK.sub [5, 6, 7, 8, 9] rfl) (hP.sub [6, 7, 8, 9, 10, 11] rfl) (ci := 0) (q0 := 0) rfl rfl) rfl rfl hl.1 rfl (lv_room (Nat.le_of_ble_eq_true rfl)) dP_doSteps_27 ⟨Nat.zero_le _, Nat.zero_le _⟩) ?_
          refine W.eq (g2 := F0 m 30 ls [.int (enc (enM T2 le 1 T2.w none))]) rfl ?_
          refine lv_istore (lv' := [(4, .int (enc (enM T2 le 1 T2.w none))), (3, .int (nI le)), (2, .int (nI i)), (0, .ref (ad 7)), (1, .int (nI mo))]) hx hb dP_doSteps_30 hl (by decide) rfl (fun ls hl => ?_)
          refine lv_iload hx hb dP_doSteps_32 (lv_at hl 0 rfl) ?_
          refine lv_iconst (v := (-1)) hx hb dP_doSteps_34 (by decide) ?_
          refine en_ne (o := (enM T2 le 1 T2.w none)) (tgt := 40) hx hb dP_doSteps_35 (by decide) (fun j h => by have := enM_lt h; omega) (fun en h2 => ?_) (fun h2 => ?_)
          · rw [h2] at hl
            have hl : lv_has ls 5 [(4, .int (nI en)), (3, .int (nI le)), (2, .int (nI i)), (0, .ref (ad 7)), (1, .int (nI mo))] := hl
            have hen := enM_lt h2
            refine lv_iload_n hx hb dP_doSteps_40 rfl (lv_at hl 2 rfl) ?_
            refine lv_iload_n hx hb dP_doSteps_41 rfl (lv_at hl 4 rfl) ?_
            refine ni_ne (tgt := 47) hx hb dP_doSteps_42 (by decide) (by omega) (by omega) (fun h3 => ?_) (fun h3 => ?_)
            · have h3 : ¬ n = 0 := by omega
              refine lv_aload_n hx hb dP_doSteps_47 rfl (lv_at hl 3 rfl) ?_
              refine va_get (D := (dC, dI)) (ci := 1) (v := .ref (ad 0)) (C := RP) (T := FP) (N := 12) hx hb hta iP hown hK hP 0 rfl rfl 6 (by decide) (hta _ m_69) (fun _ h9 => h9) rfl dP_doSteps_48 ?_
              refine lv_iload_n hx hb dP_doSteps_51 rfl (lv_at hl 1 rfl) ?_
              refine lv_iload hx hb dP_doSteps_52 (lv_at hl 0 rfl) ?_
              refine rd_call (va_runVN (As := [.int (nI le), .int (nI en)]) (rest := []) ⟨hx, hb, hml, hown, hta⟩ (c_T_stepFits l dC dI ad k T2 le en (by first | omega | exact hw | exact hh) (by first | omega | exact hw | exact hh) (by first | omega | exact hw | exact hh) (by first | omega | exact hw | exact hh)) ⟨(va_cnB 2 hta (gC m_409) rfl rfl rfl (hX _ nw_15) (hta _ m_2) (by decide +kernel) ⟨Nat.le_of_ble_eq_true rfl, Nat.le_of_ble_eq_true rfl⟩), hta _ m_408, hta _ mp_31⟩ (rd_V xT_ok trivial (hK.sub [5, 6, 7, 8, 9] rfl) (hP.sub [6, 7, 8, 9, 10, 11] rfl) (ci := 0) (q0 := 0) rfl rfl) rfl rfl hl.1 rfl (lv_room (Nat.le_of_ble_eq_true rfl)) dP_doSteps_54 ⟨Nat.zero_le _, Nat.zero_le _⟩) ?_
              refine W.eq (g2 := F0 m 57 ls [.int (bI (sfM T2 le en 0 (T2.h + 1)))]) rfl ?_
              refine lb_ne (tgt := 62) hx hb dP_doSteps_57 (by decide) (fun h4 => ?_) (fun h4 => ?_)
              · refine lv_aload_n hx hb dP_doSteps_62 rfl (lv_at hl 3 rfl) ?_
                refine va_get (D := (dC, dI)) (ci := 1) (v := .ref (ad 0)) (C := RP) (T := FP) (N := 12) hx hb hta iP hown hK hP 0 rfl rfl 6 (by decide) (hta _ m_69) (fun _ h9 => h9) rfl dP_doSteps_63 ?_
                refine lv_iload_n hx hb dP_doSteps_66 rfl (lv_at hl 1 rfl) ?_
                refine lv_iload hx hb dP_doSteps_67 (lv_at hl 0 rfl) ?_
                refine wr_call (X := PW ad k (ps P.K P.V P.B P.L P.wk P.rows P.rin sp P.run P.lat) ++ FW ad k F) (va_runVN (As := [.int (nI le), .int (nI en)]) (rest := []) ⟨hx, hb, hml, hown, hta⟩ (c_T_change l dC dI ad k T2 H.size le en (by first | omega | exact hw | exact hh) (by first | omega | exact hw | exact hh) (by first | omega | exact hw | exact hh) (by first | omega | exact hw | exact hh)) ⟨(va_cnB 2 hta (gC m_421) rfl rfl rfl (hX _ nw_16) (hta _ m_2) (by decide +kernel) ⟨Nat.le_of_ble_eq_true rfl, Nat.le_of_ble_eq_true rfl⟩), hta _ m_420, hta _ mp_34⟩ (wr_V xT_ok trivial (hK.sub [5, 6, 7, 8, 9] rfl) (hP.sub [6, 7, 8, 9, 10, 11] rfl) (hD.sub [6, 7, 8, 9, 10, 11] (by decide) rfl) (ci := 0) (q0 := 0) rfl rfl) rfl rfl hl.1 rfl (lv_room (Nat.le_of_ble_eq_true rfl)) dP_doSteps_69 ⟨Nat.zero_le _, Nat.zero_le _⟩) hP hD hS hA rfl (fun H locs hP hD hS => ?_)
                have hP : va_P (dC, dI) vwCl (PW ad k (ps P.K P.V P.B P.L P.wk P.rows P.rin sp P.run P.lat) ++ (FW ad k F ++ TW ad k (chM T2 le en))) H := hP
                have hD : va_D A (PW ad k (ps P.K P.V P.B P.L P.wk P.rows P.rin sp P.run P.lat) ++ (FW ad k F ++ TW ad k (chM T2 le en))) := hD
                refine W.eq (g2 := F0 m 72 ls []) rfl ?_
                refine lv_aload_n hx hb dP_doSteps_72 rfl (lv_at hl 3 rfl) ?_
                refine lv_dup hx hb dP_doSteps_73 rfl ?_
                refine va_get (D := (dC, dI)) (ci := 1) (v := .int sp) (C := RP) (T := FP) (N := 12) hx hb hta iP hown hK hP 0 rfl rfl 9 (by decide) (hta _ m_72) (fun _ h9 => h9) rfl dP_doSteps_74 ?_
                refine lv_iconst (v := 1) hx hb dP_doSteps_77 (by decide) ?_
                refine lv_iadd hx hb dP_doSteps_78 ?_
                refine va_put (D := (dC, dI)) (ci := 1) (v := .int (sp + 1)) (ty := .int) (C := RP) (T := FP) (N := 12) hx hb hta iP tP tP_ok nP hown hK hP hD hS 0 rfl rfl 9 (by decide) (hta _ m_72) (fun _ h9 => h9) rfl (by decide +kernel) rfl rfl (Nat.le_of_ble_eq_true rfl) dP_doSteps_79 (fun H locs hP hD hS => ?_)
                have hP : va_P (dC, dI) vwCl (PW ad k (ps P.K P.V P.B P.L P.wk P.rows P.rin (sp + 1) P.run P.lat) ++ (FW ad k F ++ TW ad k (chM T2 le en))) H := hP
                have hD : va_D A (PW ad k (ps P.K P.V P.B P.L P.wk P.rows P.rin (sp + 1) P.run P.lat) ++ (FW ad k F ++ TW ad k (chM T2 le en))) := hD
                refine lv_iinc (v := nI (i + 1)) (lv' := [(2, .int (nI (i + 1))), (4, .int (nI en)), (3, .int (nI le)), (0, .ref (ad 7)), (1, .int (nI mo))]) hx hb dP_doSteps_82 hl (k := 2) rfl (nI_add i 1) (by decide) rfl (fun ls hl => ?_)
                refine lv_goto (tgt := 2) hx hb dP_doSteps_85 (by decide) ?_
                exact ih (i + 1) (chM T2 le en) (sp + 1) H locs ls (by omega) hw2 hh2 (by rw [← hq]; simp [dsL, h1, h2, h3, h4]) hP hD hS (lv_sub hl [0, 3, 4] rfl)
              · refine lv_iconst (v := 3) hx hb dP_doSteps_60 (by decide) ?_
                exact W.iret (v := 3) hx hb hr (fun t ht hW => ⟨congrArg (fun z => Outcome.returned (some (.int z))) (by rw [← hq]; simp [dsL, h1, h2, h3, h4]), by rw [ht]; exact (by rw [← hq]; simpa [dsL, h1, h2, h3, h4] using hP), hS.F ht⟩) hS.2.2 dP_doSteps_61
            · have h3 : n = 0 := by omega
              refine lv_iconst (v := 2) hx hb dP_doSteps_45 (by decide) ?_
              exact W.iret (v := 2) hx hb hr (fun t ht hW => ⟨congrArg (fun z => Outcome.returned (some (.int z))) (by rw [← hq]; simp [dsL, h1, h2, h3]), by rw [ht]; exact (by rw [← hq]; simpa [dsL, h1, h2, h3] using hP), hS.F ht⟩) hS.2.2 dP_doSteps_46
          · rw [h2] at hl
            have hl : lv_has ls 5 [(4, .int (-1)), (3, .int (nI le)), (2, .int (nI i)), (0, .ref (ad 7)), (1, .int (nI mo))] := hl
            refine lv_iconst (v := 1) hx hb dP_doSteps_38 (by decide) ?_
            exact W.iret (v := 1) hx hb hr (fun t ht hW => ⟨congrArg (fun z => Outcome.returned (some (.int z))) (by rw [← hq]; simp [dsL, h1, h2]), by rw [ht]; exact (by rw [← hq]; simpa [dsL, h1, h2] using hP), hS.F ht⟩) hS.2.2 dP_doSteps_39
        · rw [h1] at hl
          have hl : lv_has ls 5 [(3, .int (-1)), (2, .int (nI i)), (0, .ref (ad 7)), (1, .int (nI mo))] := hl
          refine lv_iconst (v := 0) hx hb dP_doSteps_20 (by decide) ?_
          exact W.iret (v := 0) hx hb hr (fun t ht hW => ⟨congrArg (fun z => Outcome.returned (some (.int z))) (by rw [← hq]; simp [dsL, h1]), by rw [ht]; exact (by rw [← hq]; simpa [dsL, h1] using hP), hS.F ht⟩) hS.2.2 dP_doSteps_21
  exact loop2 (mo + 1) 0 T P.stp s.heap [] ls (by omega) hw hh rfl hP hD hS (lv_sub hl [0, 1, 2] rfl)

set_option maxHeartbeats 4000000 in
set_option maxRecDepth 100000 in
theorem c_P_moveStarts (l : Launch) (dC : Nat → ClassId) (dI : Nat → Nat → Nat) (ad : Nat → Nat) (k : Nat → ClassId) (P : PS) (F : Nat → Int32) (T : TS) (sz : Nat) (r : Nat) (b : Int64) (hw : T.w ≤ 12) (hh : T.h ≤ 24) (hr9 : r < 12) : Met l yP_moveStarts wP_moveStarts ({ frames := 2, cells := 0, slots := 0, locals := 48 }) (wPc [.ref (ad 7), .int (nI r), .long b] sz (dC, dI) vwCl (PW ad k P ++ (FW ad k F ++ TW ad k T)) (PK k ++ (FK k ++ TK k)) nW) (wQ (some (.int (bI (mvM P.K P.L T r b).1))) (dC, dI) vwCl (PW ad k P ++ (FW ad k F ++ TW ad k ((mvM P.K P.L T r b).2))) (va_A (PW ad k P ++ (FW ad k F ++ TW ad k T)) sz)) 0 0 (va_A (PW ad k P ++ (FW ad k F ++ TW ad k T)) sz) := by
  refine Met.ofW (cc := bP_moveStarts) (maxL := 5) (ret := (some .boolean)) (by decide) rfl ?_
  intro p e s m args below meth c s₁ B hml hv
  obtain ⟨rfl, hsz, hP, hK, hD0, hX⟩ := hv
  have hx := B.exec
  have hb := B.bytes
  have hr := B.returns
  have hts := atoms_spec (ws := wP_moveStarts) B.pre
  have hta : ∀ w ∈ AW, w.before _ s = true := fun w h => hts w (List.mem_cons_of_mem _ h)
  have hown : s.vm.findClass RP = some m.cls := findClass_of_methodNamed B.named
  have hlocks := B.notSynchronized
  subst hsz
  have hD := hD0.self (sz := s.heap.size)
  generalize hAe : va_A (PW ad k P ++ (FW ad k F ++ TW ad k T)) s.heap.size = A at hD ⊢
  have hA : ∀ q : Nat, s.heap.size ≤ q → A q := fun q h => by rw [← hAe]; exact Or.inr h
  have hS : va_S A s.heap s.heap [] := va_S.rf
  have hl := lv_entry ([.ref (ad 7), .int (nI r), .long b]) (n := 5) (Nat.le_of_ble_eq_true rfl)
  rw [lg_entry_eq]
  generalize (lg_sl ([.ref (ad 7), .int (nI r), .long b]) ++ List.replicate (5 - (lg_sl ([.ref (ad 7), .int (nI r), .long b])).length) Slot.unset).toArray = ls at hl ⊢
  have hl : lv_has ls 5 [(0, .ref (ad 7)), (1, .int (nI r)), (2, .long b)] := hl
  refine lv_aload_n hx hb dP_moveStarts_0 rfl (lv_at hl 0 rfl) ?_
  refine va_get (D := (dC, dI)) (ci := 1) (v := .ref (ad 0)) (C := RP) (T := FP) (N := 12) hx hb hta iP hown hK hP 0 rfl rfl 6 (by decide) (hta _ m_69) (fun _ h9 => h9) rfl dP_moveStarts_1 ?_
  refine wr_call (X := PW ad k P ++ FW ad k F) (va_runVN (As := []) (rest := []) ⟨hx, hb, hml, hown, hta⟩ (c_T_copyStarts l dC dI ad k T s.heap.size (by first | omega | exact hw | exact hh)) ⟨(va_cnB 0 hta (gC m_325) rfl rfl rfl (hX _ nw_7) (hta _ m_2) (by decide +kernel) ⟨Nat.le_of_ble_eq_true rfl, Nat.le_of_ble_eq_true rfl⟩), hta _ m_324, hta _ mp_14⟩ (wr_V xT_ok trivial (hK.sub [5, 6, 7, 8, 9] rfl) (hP.sub [6, 7, 8, 9, 10, 11] rfl) (hD.sub [6, 7, 8, 9, 10, 11] (by decide) rfl) (ci := 0) (q0 := 0) rfl rfl) rfl rfl hl.1 rfl (lv_room (Nat.le_of_ble_eq_true rfl)) dP_moveStarts_4 ⟨Nat.zero_le _, Nat.zero_le _⟩) hP hD hS hA rfl (fun H locs hP hD hS => ?_)
  have hP : va_P (dC, dI) vwCl (PW ad k P ++ (FW ad k F ++ TW ad k (ts T.C T.I T.O T.G (csL T.C 0 (T.h + 1) T.S) T.w T.h T.d))) H := hP
  have hD : va_D A (PW ad k P ++ (FW ad k F ++ TW ad k (ts T.C T.I T.O T.G (csL T.C 0 (T.h + 1) T.S) T.w T.h T.d))) := hD
  refine W.eq (g2 := F0 m 7 ls []) rfl ?_
  refine lv_iconst (v := nI 0) hx hb dP_moveStarts_7 (by decide) ?_
  refine lv_istore (lv' := [(4, .int (nI 0)), (0, .ref (ad 7)), (1, .int (nI r)), (2, .long b)]) hx hb dP_moveStarts_8 hl (by decide) rfl (fun ls hl => ?_)
  have loop10 : ∀ (n : Nat) (j : Nat) (T2 : TS) (H : Heap) (locs : List Loc) (ls : Array Slot), (j + n = lnM P.K r) → (T2.w = T.w) → (T2.h = T.h) → (mvL P.K P.L r b j n T2 = (mvL P.K P.L r b 0 (lnM P.K r) (ts T.C T.I T.O T.G (csL T.C 0 (T.h + 1) T.S) T.w T.h T.d))) → va_P (dC, dI) vwCl (PW ad k P ++ (FW ad k F ++ TW ad k T2)) H → va_D A (PW ad k P ++ (FW ad k F ++ TW ad k T2)) → va_S A s.heap H locs → lv_has ls 5 [(4, .int (nI j)), (0, .ref (ad 7)), (1, .int (nI r)), (2, .long b)] → W p l e (headSpec wP_moveStarts ({ frames := 2, cells := 0, slots := 0, locals := 48 })).room s m ([.ref (ad 7), .int (nI r), .long b] : List Value).toArray below meth c H locs 0 0 (MQ below (wQ (some (.int (bI (mvM P.K P.L T r b).1))) (dC, dI) vwCl (PW ad k P ++ (FW ad k F ++ TW ad k ((mvM P.K P.L T r b).2))) A) ([.ref (ad 7), .int (nI r), .long b] : List Value).toArray s 0 0 A) (F0 m 10 ls []) := by
    intro n
    induction n with
    | zero =>
      intro j T2 H locs ls hn hw2 hh2 hq hP hD hS hl
      have hln := lnM_le P.K r
      refine lv_iload hx hb dP_moveStarts_10 (lv_at hl 0 rfl) ?_
      refine lv_aload_n hx hb dP_moveStarts_12 rfl (lv_at hl 1 rfl) ?_
      refine lv_iload_n hx hb dP_moveStarts_13 rfl (lv_at hl 2 rfl) ?_
      refine rd_call (va_runV (As := [.int (nI r)]) (rest := [.int (nI j)]) ⟨hx, hb, hml, hown, hta⟩ (c_P_linesOf l dC dI ad k P F T2 r (by first | omega | exact hw | exact hh)) (cwV 1 hta (gV m_326 m_328 mp_15 m_1 m_329) rfl rfl rfl (by decide +kernel) ⟨Nat.le_of_ble_eq_true rfl, Nat.le_of_ble_eq_true rfl⟩) (rd_V nW_ok hX hK hP (ci := 1) (q0 := 0) rfl rfl) rfl rfl hl.1 rfl (lv_room (Nat.le_of_ble_eq_true rfl)) dP_moveStarts_14 ⟨Nat.zero_le _, Nat.zero_le _⟩) ?_
      refine W.eq (g2 := F0 m 17 ls [.int (nI (lnM P.K r)), .int (nI j)]) rfl ?_
      refine ni_ge (tgt := 51) hx hb dP_moveStarts_17 (by decide) (by omega) (by omega) (fun c_1 => ?_) (fun c_1 => ?_)
      · refine lv_aload_n hx hb dP_moveStarts_51 rfl (lv_at hl 1 rfl) ?_
        refine va_get (D := (dC, dI)) (ci := 1) (v := .ref (ad 0)) (C := RP) (T := FP) (N := 12) hx hb hta iP hown hK hP 0 rfl rfl 6 (by decide) (hta _ m_69) (fun _ h9 => h9) rfl dP_moveStarts_52 ?_
        refine wr_call (X := PW ad k P ++ FW ad k F) (va_runVN (As := []) (rest := []) ⟨hx, hb, hml, hown, hta⟩ (c_T_takeCopiedStarts l dC dI ad k T2 H.size (by first | omega | exact hw | exact hh)) ⟨(va_cnB 0 hta (gC m_349) rfl rfl rfl (hX _ nw_9) (hta _ m_2) (by decide +kernel) ⟨Nat.le_of_ble_eq_true rfl, Nat.le_of_ble_eq_true rfl⟩), hta _ m_348, hta _ mp_20⟩ (wr_V xT_ok trivial (hK.sub [5, 6, 7, 8, 9] rfl) (hP.sub [6, 7, 8, 9, 10, 11] rfl) (hD.sub [6, 7, 8, 9, 10, 11] (by decide) rfl) (ci := 0) (q0 := 0) rfl rfl) rfl rfl hl.1 rfl (lv_room (Nat.le_of_ble_eq_true rfl)) dP_moveStarts_55 ⟨Nat.zero_le _, Nat.zero_le _⟩) hP hD hS hA rfl (fun H locs hP hD hS => ?_)
        have hP : va_P (dC, dI) vwCl (PW ad k P ++ (FW ad k F ++ TW ad k (ts (if allF T2.S 0 (T2.h + 1) then tkL T2.S 0 (T2.h + 1) T2.C else T2.C) T2.I T2.O T2.G T2.S T2.w T2.h T2.d))) H := hP
        have hD : va_D A (PW ad k P ++ (FW ad k F ++ TW ad k (ts (if allF T2.S 0 (T2.h + 1) then tkL T2.S 0 (T2.h + 1) T2.C else T2.C) T2.I T2.O T2.G T2.S T2.w T2.h T2.d))) := hD
        refine W.eq (g2 := F0 m 58 ls [.int (bI (allF T2.S 0 (T2.h + 1)))]) rfl ?_
        exact W.zret (v := bI (allF T2.S 0 (T2.h + 1))) hx hb hr (nar_bI _) (fun t ht hW => ⟨congrArg (fun z => Outcome.returned (some (.int z))) (by have hq3 : T2 = (mvL P.K P.L r b 0 (lnM P.K r) (ts T.C T.I T.O T.G (csL T.C 0 (T.h + 1) T.S) T.w T.h T.d)) := hq; rw [hq3]; rfl), by rw [ht]; exact (by have hq3 : T2 = (mvL P.K P.L r b 0 (lnM P.K r) (ts T.C T.I T.O T.G (csL T.C 0 (T.h + 1) T.S) T.w T.h T.d)) := hq; rw [hq3] at hP; exact hP), hS.F ht⟩) hS.2.2 dP_moveStarts_58
      · exfalso; omega
    | succ n ih =>
      intro j T2 H locs ls hn hw2 hh2 hq hP hD hS hl
      have hln := lnM_le P.K r
      refine lv_iload hx hb dP_moveStarts_10 (lv_at hl 0 rfl) ?_
      refine lv_aload_n hx hb dP_moveStarts_12 rfl (lv_at hl 1 rfl) ?_
      refine lv_iload_n hx hb dP_moveStarts_13 rfl (lv_at hl 2 rfl) ?_
      refine rd_call (va_runV (As := [.int (nI r)]) (rest := [.int (nI j)]) ⟨hx, hb, hml, hown, hta⟩ (c_P_linesOf l dC dI ad k P F T2 r (by first | omega | exact hw | exact hh)) (cwV 1 hta (gV m_326 m_328 mp_15 m_1 m_329) rfl rfl rfl (by decide +kernel) ⟨Nat.le_of_ble_eq_true rfl, Nat.le_of_ble_eq_true rfl⟩) (rd_V nW_ok hX hK hP (ci := 1) (q0 := 0) rfl rfl) rfl rfl hl.1 rfl (lv_room (Nat.le_of_ble_eq_true rfl)) dP_moveStarts_14 ⟨Nat.zero_le _, Nat.zero_le _⟩) ?_
      refine W.eq (g2 := F0 m 17 ls [.int (nI (lnM P.K r)), .int (nI j)]) rfl ?_
      refine ni_ge (tgt := 51) hx hb dP_moveStarts_17 (by decide) (by omega) (by omega) (fun c_2 => ?_) (fun c_2 => ?_)
      · exfalso; omega
      · refine lv_aload_n hx hb dP_moveStarts_20 rfl (lv_at hl 1 rfl) ?_
        refine va_get (D := (dC, dI)) (ci := 1) (v := .ref (ad 0)) (C := RP) (T := FP) (N := 12) hx hb hta iP hown hK hP 0 rfl rfl 6 (by decide) (hta _ m_69) (fun _ h9 => h9) rfl dP_moveStarts_21 ?_
        refine lv_aload_n hx hb dP_moveStarts_24 rfl (lv_at hl 1 rfl) ?_
        refine lv_iload_n hx hb dP_moveStarts_25 rfl (lv_at hl 2 rfl) ?_
        refine lv_iload hx hb dP_moveStarts_26 (lv_at hl 0 rfl) ?_
        refine rd_call (va_runV (As := [.int (nI r), .int (nI j)]) (rest := [.ref (ad 0)]) ⟨hx, hb, hml, hown, hta⟩ (c_P_variableOf l dC dI ad k P F T2 r j (by first | omega | exact hw | exact hh)) (cwV 2 hta (gV m_330 m_332 mp_16 m_1 m_333) rfl rfl rfl (by decide +kernel) ⟨Nat.le_of_ble_eq_true rfl, Nat.le_of_ble_eq_true rfl⟩) (rd_V nW_ok hX hK hP (ci := 1) (q0 := 0) rfl rfl) rfl rfl hl.1 rfl (lv_room (Nat.le_of_ble_eq_true rfl)) dP_moveStarts_28 ⟨Nat.zero_le _, Nat.zero_le _⟩) ?_
        refine W.eq (g2 := F0 m 31 ls [.int (nI T2.w + P.L r + nI j), .ref (ad 0)]) rfl ?_
        refine lv_aload_n hx hb dP_moveStarts_31 rfl (lv_at hl 1 rfl) ?_
        refine lv_iload_n hx hb dP_moveStarts_32 rfl (lv_at hl 2 rfl) ?_
        refine lv_iload hx hb dP_moveStarts_33 (lv_at hl 0 rfl) ?_
        refine rd_call (va_runV (As := [.int (nI r), .int (nI j)]) (rest := [.int (nI T2.w + P.L r + nI j), .ref (ad 0)]) ⟨hx, hb, hml, hown, hta⟩ (c_P_signOf l dC dI ad k P F T2 r j (by first | omega | exact hw | exact hh) (by first | omega | exact hw | exact hh)) (cwV 2 hta (gV m_334 m_336 mp_17 m_1 m_337) rfl rfl rfl (by decide +kernel) ⟨Nat.le_of_ble_eq_true rfl, Nat.le_of_ble_eq_true rfl⟩) (rd_V nW_ok hX hK hP (ci := 1) (q0 := 0) rfl rfl) rfl rfl hl.1 rfl (lv_room (Nat.le_of_ble_eq_true rfl)) dP_moveStarts_35 ⟨Nat.zero_le _, Nat.zero_le _⟩) ?_
        refine W.eq (g2 := F0 m 38 ls [.int (sgM P.K r j), .int (nI T2.w + P.L r + nI j), .ref (ad 0)]) rfl ?_
        refine lv_ineg hx hb dP_moveStarts_38 ?_
        refine lv_i2l (v := (-(sgM P.K r j)).toInt64) hx hb dP_moveStarts_39 rfl ?_
        refine lv_lload_n hx hb dP_moveStarts_40 rfl (lv_at hl 3 rfl) ?_
        refine lv_lmul hx hb dP_moveStarts_41 ?_
        refine wr_call (X := PW ad k P ++ FW ad k F) (va_runVN (As := [.int (nI T2.w + P.L r + nI j), .long (((-(sgM P.K r j)).toInt64) * b)]) (rest := []) ⟨hx, hb, hml, hown, hta⟩ (c_T_moveCopied l dC dI ad k T2 H.size (nI T2.w + P.L r + nI j) (((-(sgM P.K r j)).toInt64) * b) (by first | omega | exact hw | exact hh) (by first | omega | exact hw | exact hh)) ⟨(va_cnB 2 hta (gC m_341) rfl rfl rfl (hX _ nw_8) (hta _ m_2) (by decide +kernel) ⟨Nat.le_of_ble_eq_true rfl, Nat.le_of_ble_eq_true rfl⟩), hta _ m_340, hta _ mp_18⟩ (wr_V xT_ok trivial (hK.sub [5, 6, 7, 8, 9] rfl) (hP.sub [6, 7, 8, 9, 10, 11] rfl) (hD.sub [6, 7, 8, 9, 10, 11] (by decide) rfl) (ci := 0) (q0 := 0) rfl rfl) rfl rfl hl.1 rfl (lv_room (Nat.le_of_ble_eq_true rfl)) dP_moveStarts_42 ⟨Nat.zero_le _, Nat.zero_le _⟩) hP hD hS hA rfl (fun H locs hP hD hS => ?_)
        have hP : va_P (dC, dI) vwCl (PW ad k P ++ (FW ad k F ++ TW ad k (ts T2.C T2.I T2.O T2.G (mcM T2 (nI T2.w + P.L r + nI j) (((-(sgM P.K r j)).toInt64) * b)) T2.w T2.h T2.d))) H := hP
        have hD : va_D A (PW ad k P ++ (FW ad k F ++ TW ad k (ts T2.C T2.I T2.O T2.G (mcM T2 (nI T2.w + P.L r + nI j) (((-(sgM P.K r j)).toInt64) * b)) T2.w T2.h T2.d))) := hD
        refine W.eq (g2 := F0 m 45 ls []) rfl ?_
        refine lv_iinc (v := nI (j + 1)) (lv' := [(4, .int (nI (j + 1))), (0, .ref (ad 7)), (1, .int (nI r)), (2, .long b)]) hx hb dP_moveStarts_45 hl (k := 0) rfl (nI_add j 1) (by decide) rfl (fun ls hl => ?_)
        refine lv_goto (tgt := 10) hx hb dP_moveStarts_48 (by decide) ?_
        exact ih (j + 1) (ts T2.C T2.I T2.O T2.G (mcM T2 (nI T2.w + P.L r + nI j) (((-(sgM P.K r j)).toInt64) * b)) T2.w T2.h T2.d) H locs ls (by omega) hw2 hh2 (by rw [← hq]; rfl) hP hD hS (lv_sub hl [0, 1, 2, 3] rfl)
  exact loop10 (lnM P.K r) 0 (ts T.C T.I T.O T.G (csL T.C 0 (T.h + 1) T.S) T.w T.h T.d) H locs ls (by omega) rfl rfl rfl hP hD hS (lv_sub hl [0, 1, 2, 3] rfl)
end
section
theorem mp_40 : Cond.selects "PlanBoundsModel" ⟨"PlanBoundsModel", "add", "(IIJ)I"⟩ ⟨"PlanBoundsModel", "add", "(IIJ)I"⟩ ∈ AW := List.mem_filter.mpr ⟨List.mem_of_getElem? (i := 40) (by decide +kernel), by decide +kernel⟩
theorem mp_41 : Cond.selects "PlanBoundsModel" ⟨"PlanBoundsModel", "isInside", "(I)Z"⟩ ⟨"PlanBoundsModel", "isInside", "(I)Z"⟩ ∈ AW := List.mem_filter.mpr ⟨List.mem_of_getElem? (i := 41) (by decide +kernel), by decide +kernel⟩
theorem mp_44 : Cond.selects "PlanBoundsModel" ⟨"PlanBoundsModel", "sum", "(II)J"⟩ ⟨"PlanBoundsModel", "sum", "(II)J"⟩ ∈ AW := List.mem_filter.mpr ⟨List.mem_of_getElem? (i := 44) (by decide +kernel), by decide +kernel⟩
theorem mp_48 : Cond.selects "PlanBoundsModel" ⟨"PlanBoundsModel", "isPart", "(I)Z"⟩ ⟨"PlanBoundsModel", "isPart", "(I)Z"⟩ ∈ AW := List.mem_filter.mpr ⟨List.mem_of_getElem? (i := 48) (by decide +kernel), by decide +kernel⟩
theorem mp_49 : Cond.selects "PlanBoundsModel" ⟨"PlanBoundsModel", "fraction", "(JI)J"⟩ ⟨"PlanBoundsModel", "fraction", "(JI)J"⟩ ∈ AW := List.mem_filter.mpr ⟨List.mem_of_getElem? (i := 49) (by decide +kernel), by decide +kernel⟩
theorem mp_50 : Cond.selects "PlanBoundsModel" ⟨"PlanBoundsModel", "amount", "(I)J"⟩ ⟨"PlanBoundsModel", "amount", "(I)J"⟩ ∈ AW := List.mem_filter.mpr ⟨List.mem_of_getElem? (i := 50) (by decide +kernel), by decide +kernel⟩
theorem m_4 : (Jvm.Cond.initialized "PlanBoundsModel") ∈ AW := List.mem_filter.mpr ⟨List.mem_of_getElem? (i := 57) (by decide +kernel), by decide +kernel⟩
theorem m_492 : (Jvm.Cond.fieldLink "PlanBoundsModel" (52 : Nat) "PlanBoundsModel" "thrown" "I") ∈ AW := List.mem_filter.mpr ⟨List.mem_of_getElem? (i := 545) (by decide +kernel), by decide +kernel⟩
theorem m_493 : (Jvm.Cond.fieldLink "PlanBoundsModel" (49 : Nat) "PlanBoundsModel" "weeks" "I") ∈ AW := List.mem_filter.mpr ⟨List.mem_of_getElem? (i := 546) (by decide +kernel), by decide +kernel⟩
theorem m_494 : (Jvm.Cond.fieldLink "PlanBoundsModel" (59 : Nat) "PlanBoundsModel" "columns" "I") ∈ AW := List.mem_filter.mpr ⟨List.mem_of_getElem? (i := 547) (by decide +kernel), by decide +kernel⟩
theorem m_495 : (Jvm.Cond.fieldLink "PlanBoundsModel" (7 : Nat) "PlanBoundsModel" "costs" "[J") ∈ AW := List.mem_filter.mpr ⟨List.mem_of_getElem? (i := 548) (by decide +kernel), by decide +kernel⟩
theorem m_496 : (Jvm.Cond.fieldLink "PlanBoundsModel" (72 : Nat) "PlanBoundsModel" "rows" "I") ∈ AW := List.mem_filter.mpr ⟨List.mem_of_getElem? (i := 549) (by decide +kernel), by decide +kernel⟩
theorem m_497 : (Jvm.Cond.fieldLink "PlanBoundsModel" (13 : Nat) "PlanBoundsModel" "kinds" "[I") ∈ AW := List.mem_filter.mpr ⟨List.mem_of_getElem? (i := 550) (by decide +kernel), by decide +kernel⟩
theorem m_498 : (Jvm.Cond.fieldLink "PlanBoundsModel" (17 : Nat) "PlanBoundsModel" "weekOf" "[I") ∈ AW := List.mem_filter.mpr ⟨List.mem_of_getElem? (i := 551) (by decide +kernel), by decide +kernel⟩
theorem m_499 : (Jvm.Cond.fieldLink "PlanBoundsModel" (20 : Nat) "PlanBoundsModel" "rights" "[J") ∈ AW := List.mem_filter.mpr ⟨List.mem_of_getElem? (i := 552) (by decide +kernel), by decide +kernel⟩
theorem m_500 : (Jvm.Cond.fieldLink "PlanBoundsModel" (23 : Nat) "PlanBoundsModel" "factors" "[J") ∈ AW := List.mem_filter.mpr ⟨List.mem_of_getElem? (i := 553) (by decide +kernel), by decide +kernel⟩
theorem m_501 : (Jvm.Cond.fieldLink "PlanBoundsModel" (26 : Nat) "PlanBoundsModel" "lineOf" "[I") ∈ AW := List.mem_filter.mpr ⟨List.mem_of_getElem? (i := 554) (by decide +kernel), by decide +kernel⟩
theorem m_502 : (Jvm.Cond.fieldLink "PlanBoundsModel" (87 : Nat) "PlanBoundsModel" "lines" "I") ∈ AW := List.mem_filter.mpr ⟨List.mem_of_getElem? (i := 555) (by decide +kernel), by decide +kernel⟩
theorem m_503 : (Jvm.Cond.fieldLink "PlanBoundsModel" (62 : Nat) "PlanBoundsModel" "hasRun" "Z") ∈ AW := List.mem_filter.mpr ⟨List.mem_of_getElem? (i := 556) (by decide +kernel), by decide +kernel⟩
theorem m_504 : (Jvm.Cond.fieldLink "PlanBoundsModel" (108 : Nat) "PlanBoundsModel" "steps" "I") ∈ AW := List.mem_filter.mpr ⟨List.mem_of_getElem? (i := 557) (by decide +kernel), by decide +kernel⟩
theorem m_505 : (Jvm.Cond.fieldLink "PlanBoundsModel" (29 : Nat) "PlanBoundsModel" "down" "J") ∈ AW := List.mem_filter.mpr ⟨List.mem_of_getElem? (i := 558) (by decide +kernel), by decide +kernel⟩
theorem m_506 : (Jvm.Cond.fieldLink "PlanBoundsModel" (33 : Nat) "PlanBoundsModel" "place" "[I") ∈ AW := List.mem_filter.mpr ⟨List.mem_of_getElem? (i := 559) (by decide +kernel), by decide +kernel⟩
theorem m_507 : (Jvm.Cond.fieldLink "PlanBoundsModel" (36 : Nat) "PlanBoundsModel" "outside" "[I") ∈ AW := List.mem_filter.mpr ⟨List.mem_of_getElem? (i := 560) (by decide +kernel), by decide +kernel⟩
theorem m_508 : (Jvm.Cond.fieldLink "PlanBoundsModel" (39 : Nat) "PlanBoundsModel" "table" "[J") ∈ AW := List.mem_filter.mpr ⟨List.mem_of_getElem? (i := 561) (by decide +kernel), by decide +kernel⟩
theorem m_509 : (Jvm.Cond.fieldLink "PlanBoundsModel" (42 : Nat) "PlanBoundsModel" "next" "[J") ∈ AW := List.mem_filter.mpr ⟨List.mem_of_getElem? (i := 562) (by decide +kernel), by decide +kernel⟩
theorem m_510 : (Jvm.Cond.fieldLink "PlanBoundsModel" (45 : Nat) "PlanBoundsModel" "against" "I") ∈ AW := List.mem_filter.mpr ⟨List.mem_of_getElem? (i := 563) (by decide +kernel), by decide +kernel⟩
theorem m_558 : (Jvm.Cond.constantLong "PlanBoundsModel" (66 : Nat) (1000 : Int64)) ∈ AW := List.mem_filter.mpr ⟨List.mem_of_getElem? (i := 611) (by decide +kernel), by decide +kernel⟩
theorem m_559 : (Jvm.Cond.methodLink "PlanBoundsModel" (68 : Nat) ({ cls := "PlanBoundsModel", name := "isIn", desc := "(JJJ)Z" } : Jvm.MethodName)) ∈ AW := List.mem_filter.mpr ⟨List.mem_of_getElem? (i := 612) (by decide +kernel), by decide +kernel⟩
theorem m_560 : (Jvm.Cond.static ({ cls := "PlanBoundsModel", name := "isIn", desc := "(JJJ)Z" } : Jvm.MethodName)) ∈ AW := List.mem_filter.mpr ⟨List.mem_of_getElem? (i := 613) (by decide +kernel), by decide +kernel⟩
theorem m_561 : (Jvm.Cond.code ({ cls := "PlanBoundsModel", name := "isIn", desc := "(JJJ)Z" } : Jvm.MethodName) prog_4_method_3_code (6 : Nat) (Option.some Jvm.ClassFile.FieldType.boolean)) ∈ AW := List.mem_filter.mpr ⟨List.mem_of_getElem? (i := 614) (by decide +kernel), by decide +kernel⟩
theorem m_566 : (Jvm.Cond.constantLong "PlanBoundsModel" (75 : Nat) (2 : Int64)) ∈ AW := List.mem_filter.mpr ⟨List.mem_of_getElem? (i := 619) (by decide +kernel), by decide +kernel⟩
theorem m_567 : (Jvm.Cond.constantLong "PlanBoundsModel" (77 : Nat) (-1000000 : Int64)) ∈ AW := List.mem_filter.mpr ⟨List.mem_of_getElem? (i := 620) (by decide +kernel), by decide +kernel⟩
theorem m_568 : (Jvm.Cond.constantLong "PlanBoundsModel" (79 : Nat) (1000000 : Int64)) ∈ AW := List.mem_filter.mpr ⟨List.mem_of_getElem? (i := 621) (by decide +kernel), by decide +kernel⟩
theorem m_569 : (Jvm.Cond.methodLink "PlanBoundsModel" (81 : Nat) ({ cls := "PlanBoundsModel", name := "add", desc := "(IIJ)I" } : Jvm.MethodName)) ∈ AW := List.mem_filter.mpr ⟨List.mem_of_getElem? (i := 622) (by decide +kernel), by decide +kernel⟩
theorem m_571 : (Jvm.Cond.instanceMethod ({ cls := "PlanBoundsModel", name := "add", desc := "(IIJ)I" } : Jvm.MethodName)) ∈ AW := List.mem_filter.mpr ⟨List.mem_of_getElem? (i := 624) (by decide +kernel), by decide +kernel⟩
theorem m_572 : (Jvm.Cond.code ({ cls := "PlanBoundsModel", name := "add", desc := "(IIJ)I" } : Jvm.MethodName) prog_4_method_6_code (5 : Nat) (Option.some Jvm.ClassFile.FieldType.int)) ∈ AW := List.mem_filter.mpr ⟨List.mem_of_getElem? (i := 625) (by decide +kernel), by decide +kernel⟩
theorem m_586 : (Jvm.Cond.methodLink "PlanBoundsModel" (90 : Nat) ({ cls := "PlanBoundsModel", name := "isInside", desc := "(I)Z" } : Jvm.MethodName)) ∈ AW := List.mem_filter.mpr ⟨List.mem_of_getElem? (i := 639) (by decide +kernel), by decide +kernel⟩
theorem m_588 : (Jvm.Cond.instanceMethod ({ cls := "PlanBoundsModel", name := "isInside", desc := "(I)Z" } : Jvm.MethodName)) ∈ AW := List.mem_filter.mpr ⟨List.mem_of_getElem? (i := 641) (by decide +kernel), by decide +kernel⟩
theorem m_589 : (Jvm.Cond.code ({ cls := "PlanBoundsModel", name := "isInside", desc := "(I)Z" } : Jvm.MethodName) prog_4_method_11_code (2 : Nat) (Option.some Jvm.ClassFile.FieldType.boolean)) ∈ AW := List.mem_filter.mpr ⟨List.mem_of_getElem? (i := 642) (by decide +kernel), by decide +kernel⟩
theorem m_594 : (Jvm.Cond.methodLink "PlanBoundsModel" (98 : Nat) ({ cls := "PlanBoundsModel", name := "isGreat", desc := "(J)Z" } : Jvm.MethodName)) ∈ AW := List.mem_filter.mpr ⟨List.mem_of_getElem? (i := 647) (by decide +kernel), by decide +kernel⟩
theorem m_595 : (Jvm.Cond.static ({ cls := "PlanBoundsModel", name := "isGreat", desc := "(J)Z" } : Jvm.MethodName)) ∈ AW := List.mem_filter.mpr ⟨List.mem_of_getElem? (i := 648) (by decide +kernel), by decide +kernel⟩
theorem m_596 : (Jvm.Cond.code ({ cls := "PlanBoundsModel", name := "isGreat", desc := "(J)Z" } : Jvm.MethodName) prog_4_method_4_code (2 : Nat) (Option.some Jvm.ClassFile.FieldType.boolean)) ∈ AW := List.mem_filter.mpr ⟨List.mem_of_getElem? (i := 649) (by decide +kernel), by decide +kernel⟩
theorem m_597 : (Jvm.Cond.constantLong "PlanBoundsModel" (55 : Nat) (1000000000 : Int64)) ∈ AW := List.mem_filter.mpr ⟨List.mem_of_getElem? (i := 650) (by decide +kernel), by decide +kernel⟩
theorem m_598 : (Jvm.Cond.constantLong "PlanBoundsModel" (57 : Nat) (-1000000000 : Int64)) ∈ AW := List.mem_filter.mpr ⟨List.mem_of_getElem? (i := 651) (by decide +kernel), by decide +kernel⟩
theorem m_607 : (Jvm.Cond.methodLink "PlanBoundsModel" (102 : Nat) ({ cls := "PlanBoundsModel", name := "sum", desc := "(II)J" } : Jvm.MethodName)) ∈ AW := List.mem_filter.mpr ⟨List.mem_of_getElem? (i := 660) (by decide +kernel), by decide +kernel⟩
theorem m_609 : (Jvm.Cond.instanceMethod ({ cls := "PlanBoundsModel", name := "sum", desc := "(II)J" } : Jvm.MethodName)) ∈ AW := List.mem_filter.mpr ⟨List.mem_of_getElem? (i := 662) (by decide +kernel), by decide +kernel⟩
theorem m_610 : (Jvm.Cond.code ({ cls := "PlanBoundsModel", name := "sum", desc := "(II)J" } : Jvm.MethodName) prog_4_method_13_code (8 : Nat) (Option.some Jvm.ClassFile.FieldType.long)) ∈ AW := List.mem_filter.mpr ⟨List.mem_of_getElem? (i := 663) (by decide +kernel), by decide +kernel⟩
theorem m_619 : (Jvm.Cond.constantLong "PlanBoundsModel" (106 : Nat) (-1 : Int64)) ∈ AW := List.mem_filter.mpr ⟨List.mem_of_getElem? (i := 672) (by decide +kernel), by decide +kernel⟩
theorem m_628 : (Jvm.Cond.methodLink "PlanBoundsModel" (130 : Nat) ({ cls := "PlanBoundsModel", name := "isPart", desc := "(I)Z" } : Jvm.MethodName)) ∈ AW := List.mem_filter.mpr ⟨List.mem_of_getElem? (i := 681) (by decide +kernel), by decide +kernel⟩
theorem m_630 : (Jvm.Cond.instanceMethod ({ cls := "PlanBoundsModel", name := "isPart", desc := "(I)Z" } : Jvm.MethodName)) ∈ AW := List.mem_filter.mpr ⟨List.mem_of_getElem? (i := 683) (by decide +kernel), by decide +kernel⟩
theorem m_631 : (Jvm.Cond.code ({ cls := "PlanBoundsModel", name := "isPart", desc := "(I)Z" } : Jvm.MethodName) prog_4_method_21_code (2 : Nat) (Option.some Jvm.ClassFile.FieldType.boolean)) ∈ AW := List.mem_filter.mpr ⟨List.mem_of_getElem? (i := 684) (by decide +kernel), by decide +kernel⟩
theorem m_632 : (Jvm.Cond.methodLink "PlanBoundsModel" (133 : Nat) ({ cls := "PlanBoundsModel", name := "fraction", desc := "(JI)J" } : Jvm.MethodName)) ∈ AW := List.mem_filter.mpr ⟨List.mem_of_getElem? (i := 685) (by decide +kernel), by decide +kernel⟩
theorem m_634 : (Jvm.Cond.instanceMethod ({ cls := "PlanBoundsModel", name := "fraction", desc := "(JI)J" } : Jvm.MethodName)) ∈ AW := List.mem_filter.mpr ⟨List.mem_of_getElem? (i := 687) (by decide +kernel), by decide +kernel⟩
theorem m_635 : (Jvm.Cond.code ({ cls := "PlanBoundsModel", name := "fraction", desc := "(JI)J" } : Jvm.MethodName) prog_4_method_20_code (10 : Nat) (Option.some Jvm.ClassFile.FieldType.long)) ∈ AW := List.mem_filter.mpr ⟨List.mem_of_getElem? (i := 688) (by decide +kernel), by decide +kernel⟩
theorem m_636 : (Jvm.Cond.methodLink "PlanBoundsModel" (126 : Nat) ({ cls := "PlanBoundsModel", name := "size", desc := "(J)J" } : Jvm.MethodName)) ∈ AW := List.mem_filter.mpr ⟨List.mem_of_getElem? (i := 689) (by decide +kernel), by decide +kernel⟩
theorem m_637 : (Jvm.Cond.static ({ cls := "PlanBoundsModel", name := "size", desc := "(J)J" } : Jvm.MethodName)) ∈ AW := List.mem_filter.mpr ⟨List.mem_of_getElem? (i := 690) (by decide +kernel), by decide +kernel⟩
theorem m_638 : (Jvm.Cond.code ({ cls := "PlanBoundsModel", name := "size", desc := "(J)J" } : Jvm.MethodName) prog_4_method_19_code (2 : Nat) (Option.some Jvm.ClassFile.FieldType.long)) ∈ AW := List.mem_filter.mpr ⟨List.mem_of_getElem? (i := 691) (by decide +kernel), by decide +kernel⟩
theorem m_643 : (Jvm.Cond.methodLink "PlanBoundsModel" (137 : Nat) ({ cls := "PlanBoundsModel", name := "amount", desc := "(I)J" } : Jvm.MethodName)) ∈ AW := List.mem_filter.mpr ⟨List.mem_of_getElem? (i := 696) (by decide +kernel), by decide +kernel⟩
theorem m_645 : (Jvm.Cond.instanceMethod ({ cls := "PlanBoundsModel", name := "amount", desc := "(I)J" } : Jvm.MethodName)) ∈ AW := List.mem_filter.mpr ⟨List.mem_of_getElem? (i := 698) (by decide +kernel), by decide +kernel⟩
theorem m_646 : (Jvm.Cond.code ({ cls := "PlanBoundsModel", name := "amount", desc := "(I)J" } : Jvm.MethodName) prog_4_method_23_code (2 : Nat) (Option.some Jvm.ClassFile.FieldType.long)) ∈ AW := List.mem_filter.mpr ⟨List.mem_of_getElem? (i := 699) (by decide +kernel), by decide +kernel⟩
end
section
/-! the state of the reference (in four groups: comparing long tuples costs the kernel too much) -/
def MS : Type := (Nat × Int32 × Nat × (Nat → Int64) × Nat) × ((Nat → Int32) × (Nat → Int32) × (Nat → Int64) × (Nat → Int64) × (Nat → Option Nat)) × (Nat × Bool × Int32 × Int64 × (Nat → Option Nat)) × ((Nat → Nat) × (Nat → Int64) × (Nat → Int64) × (Option Nat))
def MS.thr (M : MS) : Nat := M.1.1
def MS.wk (M : MS) : Int32 := M.1.2.1
def MS.co (M : MS) : Nat := M.1.2.2.1
def MS.cs (M : MS) : Nat → Int64 := M.1.2.2.2.1
def MS.ro (M : MS) : Nat := M.1.2.2.2.2
def MS.ki (M : MS) : Nat → Int32 := M.2.1.1
def MS.wo (M : MS) : Nat → Int32 := M.2.1.2.1
def MS.ri (M : MS) : Nat → Int64 := M.2.1.2.2.1
def MS.fa (M : MS) : Nat → Int64 := M.2.1.2.2.2.1
def MS.li (M : MS) : Nat → Option Nat := M.2.1.2.2.2.2
def MS.ln (M : MS) : Nat := M.2.2.1.1
def MS.hr (M : MS) : Bool := M.2.2.1.2.1
def MS.st (M : MS) : Int32 := M.2.2.1.2.2.1
def MS.dn (M : MS) : Int64 := M.2.2.1.2.2.2.1
def MS.pl (M : MS) : Nat → Option Nat := M.2.2.1.2.2.2.2
def MS.ou (M : MS) : Nat → Nat := M.2.2.2.1
def MS.ta (M : MS) : Nat → Int64 := M.2.2.2.2.1
def MS.nx (M : MS) : Nat → Int64 := M.2.2.2.2.2.1
def MS.ag (M : MS) : Option Nat := M.2.2.2.2.2.2
def ms (thr : Nat) (wk : Int32) (co : Nat) (cs : Nat → Int64) (ro : Nat) (ki : Nat → Int32) (wo : Nat → Int32) (ri : Nat → Int64) (fa : Nat → Int64) (li : Nat → Option Nat) (ln : Nat) (hr : Bool) (st : Int32) (dn : Int64) (pl : Nat → Option Nat) (ou : Nat → Nat) (ta : Nat → Int64) (nx : Nat → Int64) (ag : Option Nat) : MS := ((thr, wk, co, cs, ro), (ki, wo, ri, fa, li), (ln, hr, st, dn, pl), (ou, ta, nx, ag))
def encF (f : Nat → Option Nat) : Nat → Int32 := fun j => enc (f j)
def nIF (f : Nat → Nat) : Nat → Int32 := fun j => nI (f j)
theorem encF_up (f : Nat → Option Nat) (k : Nat) (o : Option Nat) : upd (encF f) k (enc o) = encF (va_up f k o) := by
  funext j; by_cases h : j = k <;> simp [upd, encF, va_up, h]
theorem nIF_up (f : Nat → Nat) (k x : Nat) : upd (nIF f) k (nI x) = nIF (va_up f k x) := by
  funext j; by_cases h : j = k <;> simp [upd, nIF, va_up, h]
def MW (mo : Nat → Nat) (km : Nat → ClassId) (M : MS) : va_W := [(mo 0, .inr (2, [.int (nI M.thr), .int M.wk, .int (nI M.co), .ref (mo 1), .int (nI M.ro), .ref (mo 2), .ref (mo 3), .ref (mo 4), .ref (mo 5), .ref (mo 6), .int (nI M.ln), .int (bI M.hr), .int M.st, .long M.dn, .ref (mo 7), .ref (mo 8), .ref (mo 9), .ref (mo 10), .int (enc M.ag)])), (mo 1, .inl (km 1, 12, .inr (.inl M.cs))), (mo 2, .inl (km 2, 12, .inl M.ki)), (mo 3, .inl (km 3, 12, .inl M.wo)), (mo 4, .inl (km 4, 12, .inr (.inl M.ri))), (mo 5, .inl (km 5, 144, .inr (.inl M.fa))), (mo 6, .inl (km 6, 12, .inl (encF M.li))), (mo 7, .inl (km 7, 37, .inl (encF M.pl))), (mo 8, .inl (km 8, 12, .inl (nIF M.ou))), (mo 9, .inl (km 9, 481, .inr (.inl M.ta))), (mo 10, .inl (km 10, 481, .inr (.inl M.nx)))]
def MK (km : Nat → ClassId) : List (ClassId × FieldType) := [(km 1, .long), (km 2, .int), (km 3, .int), (km 4, .long), (km 5, .long), (km 6, .int), (km 7, .int), (km 8, .int), (km 9, .long), (km 10, .long)]
def isInB (v a b : Int64) : Bool := !(decide (v < a)) && !(decide (b < v))
def isGrB (v : Int64) : Bool := decide (1000000000 < v) || decide (v < -1000000000)
def mvR (M : MS) (v q : Nat) (b : Int64) : Int64 := match M.pl q with
  | none => if v = q then -M.dn * b else 0
  | some k => M.ta (13 * v + k) * b
def inB (M : MS) (v : Nat) : Bool := decide (v = 36) || (decide (v < M.co + M.ln) && (M.pl v).isNone)
def ptR (M : MS) (c q : Nat) : Int64 := match M.pl c with
  | none => M.ta (13 * c + q)
  | some k => if k = q then M.dn else 0
def suL (M : MS) (r q : Nat) : Nat → Nat → Int64 → Int64
  | _, 0, acc => acc
  | c, n + 1, acc => suL M r q (c + 1) n (acc + M.fa (12 * r + c) * ptR M c q)
def suM (M : MS) (r q : Nat) : Int64 := suL M r q 0 M.co (if q = 12 then -M.dn * M.ri r else 0)
def lvR (M : MS) : Nat → Nat → Option Nat
  | _, 0 => none
  | v, n + 1 => if M.pl v = none ∧ M.ta (13 * v + 12) < 0 then some v else lvR M (v + 1) n
def ebR (M : MS) (le k o : Nat) : Bool := decide (M.ta (468 + k) * M.ta (13 * le + o) < M.ta (468 + o) * M.ta (13 * le + k)) || (decide (M.ta (468 + k) * M.ta (13 * le + o) = M.ta (468 + o) * M.ta (13 * le + k)) && decide (M.ou k < M.ou o))
def enS (M : MS) (le k : Nat) (b : Option Nat) : Option Nat := if 0 < M.ta (13 * le + k) then (match b with | none => some k | some o => if ebR M le k o then some k else some o) else b
def enR (M : MS) (le : Nat) : Nat → Nat → Option Nat → Option Nat
  | _, 0, b => b
  | k, n + 1, b => enR M le (k + 1) n (enS M le k b)
def szR (v : Int64) : Int64 := if v < 0 then -v else v
def gcZ : Nat → Int64 → Int64 → Bool
  | 0, _, b => decide (b = 0)
  | n + 1, a, b => if b = 0 then true else gcZ n b (a - a / b * b)
def frR (u d : Int64) (pt : Int32) : Int64 := (if pt = 0 then u else d) / gcL 100 (szR u) d
def paB (pt : Int32) : Bool := decide (pt = 0) || decide (pt = 1)
def amR (M : MS) (c : Nat) : Int64 := match M.pl c with
  | none => M.ta (13 * c + 12)
  | some _ => 0
def prR (M : MS) (q : Nat) : Int64 := match M.pl q with
  | none => 0
  | some k => M.ta (468 + k)
def weR (M : MS) (g q : Nat) : Int64 := if q = g then M.dn else match M.pl q with
  | none => 0
  | some k => -M.ta (13 * g + k)
theorem gcL_z {n : Nat} {a : Int64} : gcL n a 0 = a := by
  cases n
  · rfl
  · simp [gcL]
theorem lvR_lt {M : MS} : ∀ {n v j : Nat}, lvR M v n = some j → v ≤ j ∧ j < v + n := by
  intro n
  induction n with
  | zero => intro v j h; simp [lvR] at h
  | succ n ih =>
    intro v j h
    rw [lvR] at h
    split at h
    · cases h; omega
    · have := ih h; omega
theorem enS_lt {M : MS} {le k j : Nat} {b : Option Nat} (h : enS M le k b = some j) : j = k ∨ b = some j := by
  unfold enS at h
  split at h
  · split at h
    · cases h; exact Or.inl rfl
    · split at h
      · cases h; exact Or.inl rfl
      · cases h; exact Or.inr rfl
  · exact Or.inr h
theorem enR_lt {M : MS} {le : Nat} : ∀ {n k j : Nat} {b : Option Nat}, enR M le k n b = some j → (∀ q, b = some q → q < k) → j < k + n := by
  intro n
  induction n with
  | zero => intro k j b h hb; exact hb j h
  | succ n ih =>
    intro k j b h hb
    rw [enR] at h
    have := ih h (fun q hq => by
      rcases enS_lt hq with h1 | h1
      · omega
      · have := hb q h1; omega)
    omega
end
section
theorem dM_init_0 : decode bM_init 0 = .ok (.aload_n 0, 1) := by decide +kernel
theorem dM_init_1 : decode bM_init 1 = .ok (.invokespecial 1, 3) := by decide +kernel
theorem dM_init_4 : decode bM_init 4 = .ok (.aload_n 0, 1) := by decide +kernel
theorem dM_init_5 : decode bM_init 5 = .ok (.bipush 12, 2) := by decide +kernel
theorem dM_init_7 : decode bM_init 7 = .ok (.newarray .long, 2) := by decide +kernel
theorem dM_init_9 : decode bM_init 9 = .ok (.putfield 7, 3) := by decide +kernel
theorem dM_init_12 : decode bM_init 12 = .ok (.aload_n 0, 1) := by decide +kernel
theorem dM_init_13 : decode bM_init 13 = .ok (.bipush 12, 2) := by decide +kernel
theorem dM_init_15 : decode bM_init 15 = .ok (.newarray .int, 2) := by decide +kernel
theorem dM_init_17 : decode bM_init 17 = .ok (.putfield 13, 3) := by decide +kernel
theorem dM_init_20 : decode bM_init 20 = .ok (.aload_n 0, 1) := by decide +kernel
theorem dM_init_21 : decode bM_init 21 = .ok (.bipush 12, 2) := by decide +kernel
theorem dM_init_23 : decode bM_init 23 = .ok (.newarray .int, 2) := by decide +kernel
theorem dM_init_25 : decode bM_init 25 = .ok (.putfield 17, 3) := by decide +kernel
theorem dM_init_28 : decode bM_init 28 = .ok (.aload_n 0, 1) := by decide +kernel
theorem dM_init_29 : decode bM_init 29 = .ok (.bipush 12, 2) := by decide +kernel
theorem dM_init_31 : decode bM_init 31 = .ok (.newarray .long, 2) := by decide +kernel
theorem dM_init_33 : decode bM_init 33 = .ok (.putfield 20, 3) := by decide +kernel
theorem dM_init_36 : decode bM_init 36 = .ok (.aload_n 0, 1) := by decide +kernel
theorem dM_init_37 : decode bM_init 37 = .ok (.sipush 144, 3) := by decide +kernel
theorem dM_init_40 : decode bM_init 40 = .ok (.newarray .long, 2) := by decide +kernel
theorem dM_init_42 : decode bM_init 42 = .ok (.putfield 23, 3) := by decide +kernel
theorem dM_init_45 : decode bM_init 45 = .ok (.aload_n 0, 1) := by decide +kernel
theorem dM_init_46 : decode bM_init 46 = .ok (.bipush 12, 2) := by decide +kernel
theorem dM_init_48 : decode bM_init 48 = .ok (.newarray .int, 2) := by decide +kernel
theorem dM_init_50 : decode bM_init 50 = .ok (.putfield 26, 3) := by decide +kernel
theorem dM_init_53 : decode bM_init 53 = .ok (.aload_n 0, 1) := by decide +kernel
theorem dM_init_54 : decode bM_init 54 = .ok (.lconst 1, 1) := by decide +kernel
theorem dM_init_55 : decode bM_init 55 = .ok (.putfield 29, 3) := by decide +kernel
theorem dM_init_58 : decode bM_init 58 = .ok (.aload_n 0, 1) := by decide +kernel
theorem dM_init_59 : decode bM_init 59 = .ok (.bipush 37, 2) := by decide +kernel
theorem dM_init_61 : decode bM_init 61 = .ok (.newarray .int, 2) := by decide +kernel
theorem dM_init_63 : decode bM_init 63 = .ok (.putfield 33, 3) := by decide +kernel
theorem dM_init_66 : decode bM_init 66 = .ok (.aload_n 0, 1) := by decide +kernel
theorem dM_init_67 : decode bM_init 67 = .ok (.bipush 12, 2) := by decide +kernel
theorem dM_init_69 : decode bM_init 69 = .ok (.newarray .int, 2) := by decide +kernel
theorem dM_init_71 : decode bM_init 71 = .ok (.putfield 36, 3) := by decide +kernel
theorem dM_init_74 : decode bM_init 74 = .ok (.aload_n 0, 1) := by decide +kernel
theorem dM_init_75 : decode bM_init 75 = .ok (.sipush 481, 3) := by decide +kernel
theorem dM_init_78 : decode bM_init 78 = .ok (.newarray .long, 2) := by decide +kernel
theorem dM_init_80 : decode bM_init 80 = .ok (.putfield 39, 3) := by decide +kernel
theorem dM_init_83 : decode bM_init 83 = .ok (.aload_n 0, 1) := by decide +kernel
theorem dM_init_84 : decode bM_init 84 = .ok (.sipush 481, 3) := by decide +kernel
theorem dM_init_87 : decode bM_init 87 = .ok (.newarray .long, 2) := by decide +kernel
theorem dM_init_89 : decode bM_init 89 = .ok (.putfield 42, 3) := by decide +kernel
theorem dM_init_92 : decode bM_init 92 = .ok (.aload_n 0, 1) := by decide +kernel
theorem dM_init_93 : decode bM_init 93 = .ok (.iconst (-1), 1) := by decide +kernel
theorem dM_init_94 : decode bM_init 94 = .ok (.putfield 45, 3) := by decide +kernel
theorem dM_init_97 : decode bM_init 97 = .ok (.aload_n 0, 1) := by decide +kernel
theorem dM_init_98 : decode bM_init 98 = .ok (.iload_n 1, 1) := by decide +kernel
theorem dM_init_99 : decode bM_init 99 = .ok (.iconst 1, 1) := by decide +kernel
theorem dM_init_100 : decode bM_init 100 = .ok (.if_icmp .ge 7, 3) := by decide +kernel
theorem dM_init_103 : decode bM_init 103 = .ok (.iconst 1, 1) := by decide +kernel
theorem dM_init_104 : decode bM_init 104 = .ok (.goto 15, 3) := by decide +kernel
theorem dM_init_107 : decode bM_init 107 = .ok (.iload_n 1, 1) := by decide +kernel
theorem dM_init_108 : decode bM_init 108 = .ok (.bipush 60, 2) := by decide +kernel
theorem dM_init_110 : decode bM_init 110 = .ok (.if_icmp .le 8, 3) := by decide +kernel
theorem dM_init_113 : decode bM_init 113 = .ok (.bipush 60, 2) := by decide +kernel
theorem dM_init_115 : decode bM_init 115 = .ok (.goto 4, 3) := by decide +kernel
theorem dM_init_118 : decode bM_init 118 = .ok (.iload_n 1, 1) := by decide +kernel
theorem dM_init_119 : decode bM_init 119 = .ok (.putfield 49, 3) := by decide +kernel
theorem dM_init_122 : decode bM_init 122 = .ok (.iconst 0, 1) := by decide +kernel
theorem dM_init_123 : decode bM_init 123 = .ok (.istore_n 2, 1) := by decide +kernel
theorem dM_init_124 : decode bM_init 124 = .ok (.iload_n 2, 1) := by decide +kernel
theorem dM_init_125 : decode bM_init 125 = .ok (.bipush 37, 2) := by decide +kernel
theorem dM_init_127 : decode bM_init 127 = .ok (.if_icmp .ge 16, 3) := by decide +kernel
theorem dM_init_130 : decode bM_init 130 = .ok (.aload_n 0, 1) := by decide +kernel
theorem dM_init_131 : decode bM_init 131 = .ok (.getfield 33, 3) := by decide +kernel
theorem dM_init_134 : decode bM_init 134 = .ok (.iload_n 2, 1) := by decide +kernel
theorem dM_init_135 : decode bM_init 135 = .ok (.iconst (-1), 1) := by decide +kernel
theorem dM_init_136 : decode bM_init 136 = .ok (.iastore, 1) := by decide +kernel
theorem dM_init_137 : decode bM_init 137 = .ok (.iinc 2 1, 3) := by decide +kernel
theorem dM_init_140 : decode bM_init 140 = .ok (.goto (-16), 3) := by decide +kernel
theorem dM_init_143 : decode bM_init 143 = .ok (.iconst 0, 1) := by decide +kernel
theorem dM_init_144 : decode bM_init 144 = .ok (.istore_n 2, 1) := by decide +kernel
theorem dM_init_145 : decode bM_init 145 = .ok (.iload_n 2, 1) := by decide +kernel
theorem dM_init_146 : decode bM_init 146 = .ok (.bipush 12, 2) := by decide +kernel
theorem dM_init_148 : decode bM_init 148 = .ok (.if_icmp .ge 16, 3) := by decide +kernel
theorem dM_init_151 : decode bM_init 151 = .ok (.aload_n 0, 1) := by decide +kernel
theorem dM_init_152 : decode bM_init 152 = .ok (.getfield 26, 3) := by decide +kernel
theorem dM_init_155 : decode bM_init 155 = .ok (.iload_n 2, 1) := by decide +kernel
theorem dM_init_156 : decode bM_init 156 = .ok (.iconst (-1), 1) := by decide +kernel
theorem dM_init_157 : decode bM_init 157 = .ok (.iastore, 1) := by decide +kernel
theorem dM_init_158 : decode bM_init 158 = .ok (.iinc 2 1, 3) := by decide +kernel
theorem dM_init_161 : decode bM_init 161 = .ok (.goto (-16), 3) := by decide +kernel
theorem dM_init_164 : decode bM_init 164 = .ok (.return_, 1) := by decide +kernel
theorem dM_thrown_0 : decode bM_thrown 0 = .ok (.aload_n 0, 1) := by decide +kernel
theorem dM_thrown_1 : decode bM_thrown 1 = .ok (.getfield 52, 3) := by decide +kernel
theorem dM_thrown_4 : decode bM_thrown 4 = .ok (.ireturn, 1) := by decide +kernel
theorem dM_isIn_0 : decode bM_isIn 0 = .ok (.lload_n 0, 1) := by decide +kernel
theorem dM_isIn_1 : decode bM_isIn 1 = .ok (.lload_n 2, 1) := by decide +kernel
theorem dM_isIn_2 : decode bM_isIn 2 = .ok (.lcmp, 1) := by decide +kernel
theorem dM_isIn_3 : decode bM_isIn 3 = .ok (.ifCond .lt 14, 3) := by decide +kernel
theorem dM_isIn_6 : decode bM_isIn 6 = .ok (.lload_n 0, 1) := by decide +kernel
theorem dM_isIn_7 : decode bM_isIn 7 = .ok (.lload 4, 2) := by decide +kernel
theorem dM_isIn_9 : decode bM_isIn 9 = .ok (.lcmp, 1) := by decide +kernel
theorem dM_isIn_10 : decode bM_isIn 10 = .ok (.ifCond .gt 7, 3) := by decide +kernel
theorem dM_isIn_13 : decode bM_isIn 13 = .ok (.iconst 1, 1) := by decide +kernel
theorem dM_isIn_14 : decode bM_isIn 14 = .ok (.goto 4, 3) := by decide +kernel
theorem dM_isIn_17 : decode bM_isIn 17 = .ok (.iconst 0, 1) := by decide +kernel
theorem dM_isIn_18 : decode bM_isIn 18 = .ok (.ireturn, 1) := by decide +kernel
theorem dM_isGreat_0 : decode bM_isGreat 0 = .ok (.lload_n 0, 1) := by decide +kernel
theorem dM_isGreat_1 : decode bM_isGreat 1 = .ok (.ldc2_w 55, 3) := by decide +kernel
theorem dM_isGreat_4 : decode bM_isGreat 4 = .ok (.lcmp, 1) := by decide +kernel
theorem dM_isGreat_5 : decode bM_isGreat 5 = .ok (.ifCond .gt 11, 3) := by decide +kernel
theorem dM_isGreat_8 : decode bM_isGreat 8 = .ok (.lload_n 0, 1) := by decide +kernel
theorem dM_isGreat_9 : decode bM_isGreat 9 = .ok (.ldc2_w 57, 3) := by decide +kernel
theorem dM_isGreat_12 : decode bM_isGreat 12 = .ok (.lcmp, 1) := by decide +kernel
theorem dM_isGreat_13 : decode bM_isGreat 13 = .ok (.ifCond .ge 7, 3) := by decide +kernel
theorem dM_isGreat_16 : decode bM_isGreat 16 = .ok (.iconst 1, 1) := by decide +kernel
theorem dM_isGreat_17 : decode bM_isGreat 17 = .ok (.goto 4, 3) := by decide +kernel
theorem dM_isGreat_20 : decode bM_isGreat 20 = .ok (.iconst 0, 1) := by decide +kernel
theorem dM_isGreat_21 : decode bM_isGreat 21 = .ok (.ireturn, 1) := by decide +kernel
theorem dM_column_0 : decode bM_column 0 = .ok (.aload_n 0, 1) := by decide +kernel
theorem dM_column_1 : decode bM_column 1 = .ok (.aload_n 0, 1) := by decide +kernel
theorem dM_column_2 : decode bM_column 2 = .ok (.getfield 59, 3) := by decide +kernel
theorem dM_column_5 : decode bM_column 5 = .ok (.bipush 12, 2) := by decide +kernel
theorem dM_column_7 : decode bM_column 7 = .ok (.if_icmp .eq 10, 3) := by decide +kernel
theorem dM_column_10 : decode bM_column 10 = .ok (.aload_n 0, 1) := by decide +kernel
theorem dM_column_11 : decode bM_column 11 = .ok (.getfield 62, 3) := by decide +kernel
theorem dM_column_14 : decode bM_column 14 = .ok (.ifCond .eq 7, 3) := by decide +kernel
theorem dM_column_17 : decode bM_column 17 = .ok (.iconst 1, 1) := by decide +kernel
theorem dM_column_18 : decode bM_column 18 = .ok (.goto 19, 3) := by decide +kernel
theorem dM_column_21 : decode bM_column 21 = .ok (.lload_n 1, 1) := by decide +kernel
theorem dM_column_22 : decode bM_column 22 = .ok (.lconst 0, 1) := by decide +kernel
theorem dM_column_23 : decode bM_column 23 = .ok (.ldc2_w 66, 3) := by decide +kernel
theorem dM_column_26 : decode bM_column 26 = .ok (.invokestatic 68, 3) := by decide +kernel
theorem dM_column_29 : decode bM_column 29 = .ok (.ifCond .ne 7, 3) := by decide +kernel
theorem dM_column_32 : decode bM_column 32 = .ok (.iconst 2, 1) := by decide +kernel
theorem dM_column_33 : decode bM_column 33 = .ok (.goto 4, 3) := by decide +kernel
theorem dM_column_36 : decode bM_column 36 = .ok (.iconst 0, 1) := by decide +kernel
theorem dM_column_37 : decode bM_column 37 = .ok (.putfield 52, 3) := by decide +kernel
theorem dM_column_40 : decode bM_column 40 = .ok (.aload_n 0, 1) := by decide +kernel
theorem dM_column_41 : decode bM_column 41 = .ok (.getfield 52, 3) := by decide +kernel
theorem dM_column_44 : decode bM_column 44 = .ok (.ifCond .le 5, 3) := by decide +kernel
theorem dM_column_47 : decode bM_column 47 = .ok (.iconst 0, 1) := by decide +kernel
theorem dM_column_48 : decode bM_column 48 = .ok (.ireturn, 1) := by decide +kernel
theorem dM_column_49 : decode bM_column 49 = .ok (.aload_n 0, 1) := by decide +kernel
theorem dM_column_50 : decode bM_column 50 = .ok (.getfield 7, 3) := by decide +kernel
theorem dM_column_53 : decode bM_column 53 = .ok (.aload_n 0, 1) := by decide +kernel
theorem dM_column_54 : decode bM_column 54 = .ok (.getfield 59, 3) := by decide +kernel
theorem dM_column_57 : decode bM_column 57 = .ok (.lload_n 1, 1) := by decide +kernel
theorem dM_column_58 : decode bM_column 58 = .ok (.lastore, 1) := by decide +kernel
theorem dM_column_59 : decode bM_column 59 = .ok (.aload_n 0, 1) := by decide +kernel
theorem dM_column_60 : decode bM_column 60 = .ok (.getfield 33, 3) := by decide +kernel
theorem dM_column_63 : decode bM_column 63 = .ok (.aload_n 0, 1) := by decide +kernel
theorem dM_column_64 : decode bM_column 64 = .ok (.getfield 59, 3) := by decide +kernel
theorem dM_column_67 : decode bM_column 67 = .ok (.aload_n 0, 1) := by decide +kernel
theorem dM_column_68 : decode bM_column 68 = .ok (.getfield 59, 3) := by decide +kernel
theorem dM_column_71 : decode bM_column 71 = .ok (.iastore, 1) := by decide +kernel
theorem dM_column_72 : decode bM_column 72 = .ok (.aload_n 0, 1) := by decide +kernel
theorem dM_column_73 : decode bM_column 73 = .ok (.getfield 36, 3) := by decide +kernel
theorem dM_column_76 : decode bM_column 76 = .ok (.aload_n 0, 1) := by decide +kernel
theorem dM_column_77 : decode bM_column 77 = .ok (.getfield 59, 3) := by decide +kernel
theorem dM_column_80 : decode bM_column 80 = .ok (.aload_n 0, 1) := by decide +kernel
theorem dM_column_81 : decode bM_column 81 = .ok (.getfield 59, 3) := by decide +kernel
theorem dM_column_84 : decode bM_column 84 = .ok (.iastore, 1) := by decide +kernel
theorem dM_column_85 : decode bM_column 85 = .ok (.aload_n 0, 1) := by decide +kernel
theorem dM_column_86 : decode bM_column 86 = .ok (.getfield 39, 3) := by decide +kernel
theorem dM_column_89 : decode bM_column 89 = .ok (.sipush 468, 3) := by decide +kernel
theorem dM_column_92 : decode bM_column 92 = .ok (.aload_n 0, 1) := by decide +kernel
theorem dM_column_93 : decode bM_column 93 = .ok (.getfield 59, 3) := by decide +kernel
theorem dM_column_96 : decode bM_column 96 = .ok (.iadd, 1) := by decide +kernel
theorem dM_column_97 : decode bM_column 97 = .ok (.lload_n 1, 1) := by decide +kernel
theorem dM_column_98 : decode bM_column 98 = .ok (.lastore, 1) := by decide +kernel
theorem dM_column_99 : decode bM_column 99 = .ok (.aload_n 0, 1) := by decide +kernel
theorem dM_column_100 : decode bM_column 100 = .ok (.dup, 1) := by decide +kernel
theorem dM_column_101 : decode bM_column 101 = .ok (.getfield 59, 3) := by decide +kernel
theorem dM_column_104 : decode bM_column 104 = .ok (.iconst 1, 1) := by decide +kernel
theorem dM_column_105 : decode bM_column 105 = .ok (.iadd, 1) := by decide +kernel
theorem dM_column_106 : decode bM_column 106 = .ok (.putfield 59, 3) := by decide +kernel
theorem dM_column_109 : decode bM_column 109 = .ok (.aload_n 0, 1) := by decide +kernel
theorem dM_column_110 : decode bM_column 110 = .ok (.getfield 59, 3) := by decide +kernel
theorem dM_column_113 : decode bM_column 113 = .ok (.iconst 1, 1) := by decide +kernel
theorem dM_column_114 : decode bM_column 114 = .ok (.isub, 1) := by decide +kernel
theorem dM_column_115 : decode bM_column 115 = .ok (.ireturn, 1) := by decide +kernel
theorem dM_add_0 : decode bM_add 0 = .ok (.aload_n 0, 1) := by decide +kernel
theorem dM_add_1 : decode bM_add 1 = .ok (.getfield 13, 3) := by decide +kernel
theorem dM_add_4 : decode bM_add 4 = .ok (.aload_n 0, 1) := by decide +kernel
theorem dM_add_5 : decode bM_add 5 = .ok (.getfield 72, 3) := by decide +kernel
theorem dM_add_8 : decode bM_add 8 = .ok (.iload_n 1, 1) := by decide +kernel
theorem dM_add_9 : decode bM_add 9 = .ok (.iastore, 1) := by decide +kernel
theorem dM_add_10 : decode bM_add 10 = .ok (.aload_n 0, 1) := by decide +kernel
theorem dM_add_11 : decode bM_add 11 = .ok (.getfield 17, 3) := by decide +kernel
theorem dM_add_14 : decode bM_add 14 = .ok (.aload_n 0, 1) := by decide +kernel
theorem dM_add_15 : decode bM_add 15 = .ok (.getfield 72, 3) := by decide +kernel
theorem dM_add_18 : decode bM_add 18 = .ok (.iload_n 2, 1) := by decide +kernel
theorem dM_add_19 : decode bM_add 19 = .ok (.iastore, 1) := by decide +kernel
theorem dM_add_20 : decode bM_add 20 = .ok (.aload_n 0, 1) := by decide +kernel
theorem dM_add_21 : decode bM_add 21 = .ok (.getfield 20, 3) := by decide +kernel
theorem dM_add_24 : decode bM_add 24 = .ok (.aload_n 0, 1) := by decide +kernel
theorem dM_add_25 : decode bM_add 25 = .ok (.getfield 72, 3) := by decide +kernel
theorem dM_add_28 : decode bM_add 28 = .ok (.lload_n 3, 1) := by decide +kernel
theorem dM_add_29 : decode bM_add 29 = .ok (.lastore, 1) := by decide +kernel
theorem dM_add_30 : decode bM_add 30 = .ok (.aload_n 0, 1) := by decide +kernel
theorem dM_add_31 : decode bM_add 31 = .ok (.dup, 1) := by decide +kernel
theorem dM_add_32 : decode bM_add 32 = .ok (.getfield 72, 3) := by decide +kernel
theorem dM_add_35 : decode bM_add 35 = .ok (.iconst 1, 1) := by decide +kernel
theorem dM_add_36 : decode bM_add 36 = .ok (.iadd, 1) := by decide +kernel
theorem dM_add_37 : decode bM_add 37 = .ok (.putfield 72, 3) := by decide +kernel
theorem dM_add_40 : decode bM_add 40 = .ok (.aload_n 0, 1) := by decide +kernel
theorem dM_add_41 : decode bM_add 41 = .ok (.getfield 72, 3) := by decide +kernel
theorem dM_add_44 : decode bM_add 44 = .ok (.iconst 1, 1) := by decide +kernel
theorem dM_add_45 : decode bM_add 45 = .ok (.isub, 1) := by decide +kernel
theorem dM_add_46 : decode bM_add 46 = .ok (.ireturn, 1) := by decide +kernel
theorem dM_row_0 : decode bM_row 0 = .ok (.aload_n 0, 1) := by decide +kernel
theorem dM_row_1 : decode bM_row 1 = .ok (.aload_n 0, 1) := by decide +kernel
theorem dM_row_2 : decode bM_row 2 = .ok (.getfield 72, 3) := by decide +kernel
theorem dM_row_5 : decode bM_row 5 = .ok (.bipush 12, 2) := by decide +kernel
theorem dM_row_7 : decode bM_row 7 = .ok (.if_icmp .ne 7, 3) := by decide +kernel
theorem dM_row_10 : decode bM_row 10 = .ok (.iconst 1, 1) := by decide +kernel
theorem dM_row_11 : decode bM_row 11 = .ok (.goto 49, 3) := by decide +kernel
theorem dM_row_14 : decode bM_row 14 = .ok (.iload_n 1, 1) := by decide +kernel
theorem dM_row_15 : decode bM_row 15 = .ok (.i2l, 1) := by decide +kernel
theorem dM_row_16 : decode bM_row 16 = .ok (.lconst 0, 1) := by decide +kernel
theorem dM_row_17 : decode bM_row 17 = .ok (.ldc2_w 75, 3) := by decide +kernel
theorem dM_row_20 : decode bM_row 20 = .ok (.invokestatic 68, 3) := by decide +kernel
theorem dM_row_23 : decode bM_row 23 = .ok (.ifCond .eq 32, 3) := by decide +kernel
theorem dM_row_26 : decode bM_row 26 = .ok (.iload_n 2, 1) := by decide +kernel
theorem dM_row_27 : decode bM_row 27 = .ok (.i2l, 1) := by decide +kernel
theorem dM_row_28 : decode bM_row 28 = .ok (.lconst 0, 1) := by decide +kernel
theorem dM_row_29 : decode bM_row 29 = .ok (.aload_n 0, 1) := by decide +kernel
theorem dM_row_30 : decode bM_row 30 = .ok (.getfield 49, 3) := by decide +kernel
theorem dM_row_33 : decode bM_row 33 = .ok (.iconst 1, 1) := by decide +kernel
theorem dM_row_34 : decode bM_row 34 = .ok (.isub, 1) := by decide +kernel
theorem dM_row_35 : decode bM_row 35 = .ok (.i2l, 1) := by decide +kernel
theorem dM_row_36 : decode bM_row 36 = .ok (.invokestatic 68, 3) := by decide +kernel
theorem dM_row_39 : decode bM_row 39 = .ok (.ifCond .eq 16, 3) := by decide +kernel
theorem dM_row_42 : decode bM_row 42 = .ok (.lload_n 3, 1) := by decide +kernel
theorem dM_row_43 : decode bM_row 43 = .ok (.ldc2_w 77, 3) := by decide +kernel
theorem dM_row_46 : decode bM_row 46 = .ok (.ldc2_w 79, 3) := by decide +kernel
theorem dM_row_49 : decode bM_row 49 = .ok (.invokestatic 68, 3) := by decide +kernel
theorem dM_row_52 : decode bM_row 52 = .ok (.ifCond .ne 7, 3) := by decide +kernel
theorem dM_row_55 : decode bM_row 55 = .ok (.iconst 2, 1) := by decide +kernel
theorem dM_row_56 : decode bM_row 56 = .ok (.goto 4, 3) := by decide +kernel
theorem dM_row_59 : decode bM_row 59 = .ok (.iconst 0, 1) := by decide +kernel
theorem dM_row_60 : decode bM_row 60 = .ok (.putfield 52, 3) := by decide +kernel
theorem dM_row_63 : decode bM_row 63 = .ok (.aload_n 0, 1) := by decide +kernel
theorem dM_row_64 : decode bM_row 64 = .ok (.getfield 52, 3) := by decide +kernel
theorem dM_row_67 : decode bM_row 67 = .ok (.ifCond .le 7, 3) := by decide +kernel
theorem dM_row_70 : decode bM_row 70 = .ok (.iconst 0, 1) := by decide +kernel
theorem dM_row_71 : decode bM_row 71 = .ok (.goto 10, 3) := by decide +kernel
theorem dM_row_74 : decode bM_row 74 = .ok (.aload_n 0, 1) := by decide +kernel
theorem dM_row_75 : decode bM_row 75 = .ok (.iload_n 1, 1) := by decide +kernel
theorem dM_row_76 : decode bM_row 76 = .ok (.iload_n 2, 1) := by decide +kernel
theorem dM_row_77 : decode bM_row 77 = .ok (.lload_n 3, 1) := by decide +kernel
theorem dM_row_78 : decode bM_row 78 = .ok (.invokevirtual 81, 3) := by decide +kernel
theorem dM_row_81 : decode bM_row 81 = .ok (.ireturn, 1) := by decide +kernel
theorem dM_factor_0 : decode bM_factor 0 = .ok (.aload_n 0, 1) := by decide +kernel
theorem dM_factor_1 : decode bM_factor 1 = .ok (.iload_n 1, 1) := by decide +kernel
theorem dM_factor_2 : decode bM_factor 2 = .ok (.i2l, 1) := by decide +kernel
theorem dM_factor_3 : decode bM_factor 3 = .ok (.lconst 0, 1) := by decide +kernel
theorem dM_factor_4 : decode bM_factor 4 = .ok (.aload_n 0, 1) := by decide +kernel
theorem dM_factor_5 : decode bM_factor 5 = .ok (.getfield 72, 3) := by decide +kernel
theorem dM_factor_8 : decode bM_factor 8 = .ok (.iconst 1, 1) := by decide +kernel
theorem dM_factor_9 : decode bM_factor 9 = .ok (.isub, 1) := by decide +kernel
theorem dM_factor_10 : decode bM_factor 10 = .ok (.i2l, 1) := by decide +kernel
theorem dM_factor_11 : decode bM_factor 11 = .ok (.invokestatic 68, 3) := by decide +kernel
theorem dM_factor_14 : decode bM_factor 14 = .ok (.ifCond .eq 19, 3) := by decide +kernel
theorem dM_factor_17 : decode bM_factor 17 = .ok (.iload_n 2, 1) := by decide +kernel
theorem dM_factor_18 : decode bM_factor 18 = .ok (.i2l, 1) := by decide +kernel
theorem dM_factor_19 : decode bM_factor 19 = .ok (.lconst 0, 1) := by decide +kernel
theorem dM_factor_20 : decode bM_factor 20 = .ok (.aload_n 0, 1) := by decide +kernel
theorem dM_factor_21 : decode bM_factor 21 = .ok (.getfield 59, 3) := by decide +kernel
theorem dM_factor_24 : decode bM_factor 24 = .ok (.iconst 1, 1) := by decide +kernel
theorem dM_factor_25 : decode bM_factor 25 = .ok (.isub, 1) := by decide +kernel
theorem dM_factor_26 : decode bM_factor 26 = .ok (.i2l, 1) := by decide +kernel
theorem dM_factor_27 : decode bM_factor 27 = .ok (.invokestatic 68, 3) := by decide +kernel
theorem dM_factor_30 : decode bM_factor 30 = .ok (.ifCond .ne 7, 3) := by decide +kernel
theorem dM_factor_33 : decode bM_factor 33 = .ok (.iconst 1, 1) := by decide +kernel
theorem dM_factor_34 : decode bM_factor 34 = .ok (.goto 36, 3) := by decide +kernel
theorem dM_factor_37 : decode bM_factor 37 = .ok (.aload_n 0, 1) := by decide +kernel
theorem dM_factor_38 : decode bM_factor 38 = .ok (.getfield 26, 3) := by decide +kernel
theorem dM_factor_41 : decode bM_factor 41 = .ok (.iload_n 1, 1) := by decide +kernel
theorem dM_factor_42 : decode bM_factor 42 = .ok (.iaload, 1) := by decide +kernel
theorem dM_factor_43 : decode bM_factor 43 = .ok (.iconst (-1), 1) := by decide +kernel
theorem dM_factor_44 : decode bM_factor 44 = .ok (.if_icmp .eq 7, 3) := by decide +kernel
theorem dM_factor_47 : decode bM_factor 47 = .ok (.iconst 2, 1) := by decide +kernel
theorem dM_factor_48 : decode bM_factor 48 = .ok (.goto 22, 3) := by decide +kernel
theorem dM_factor_51 : decode bM_factor 51 = .ok (.iload_n 3, 1) := by decide +kernel
theorem dM_factor_52 : decode bM_factor 52 = .ok (.i2l, 1) := by decide +kernel
theorem dM_factor_53 : decode bM_factor 53 = .ok (.ldc2_w 85, 3) := by decide +kernel
theorem dM_factor_56 : decode bM_factor 56 = .ok (.ldc2_w 66, 3) := by decide +kernel
theorem dM_factor_59 : decode bM_factor 59 = .ok (.invokestatic 68, 3) := by decide +kernel
theorem dM_factor_62 : decode bM_factor 62 = .ok (.ifCond .ne 7, 3) := by decide +kernel
theorem dM_factor_65 : decode bM_factor 65 = .ok (.iconst 3, 1) := by decide +kernel
theorem dM_factor_66 : decode bM_factor 66 = .ok (.goto 4, 3) := by decide +kernel
theorem dM_factor_69 : decode bM_factor 69 = .ok (.iconst 0, 1) := by decide +kernel
theorem dM_factor_70 : decode bM_factor 70 = .ok (.putfield 52, 3) := by decide +kernel
theorem dM_factor_73 : decode bM_factor 73 = .ok (.aload_n 0, 1) := by decide +kernel
theorem dM_factor_74 : decode bM_factor 74 = .ok (.getfield 52, 3) := by decide +kernel
theorem dM_factor_77 : decode bM_factor 77 = .ok (.ifCond .le 5, 3) := by decide +kernel
theorem dM_factor_80 : decode bM_factor 80 = .ok (.iconst 0, 1) := by decide +kernel
theorem dM_factor_81 : decode bM_factor 81 = .ok (.ireturn, 1) := by decide +kernel
theorem dM_factor_82 : decode bM_factor 82 = .ok (.aload_n 0, 1) := by decide +kernel
theorem dM_factor_83 : decode bM_factor 83 = .ok (.getfield 23, 3) := by decide +kernel
theorem dM_factor_86 : decode bM_factor 86 = .ok (.bipush 12, 2) := by decide +kernel
theorem dM_factor_88 : decode bM_factor 88 = .ok (.iload_n 1, 1) := by decide +kernel
theorem dM_factor_89 : decode bM_factor 89 = .ok (.imul, 1) := by decide +kernel
theorem dM_factor_90 : decode bM_factor 90 = .ok (.iload_n 2, 1) := by decide +kernel
theorem dM_factor_91 : decode bM_factor 91 = .ok (.iadd, 1) := by decide +kernel
theorem dM_factor_92 : decode bM_factor 92 = .ok (.laload, 1) := by decide +kernel
theorem dM_factor_93 : decode bM_factor 93 = .ok (.l2i, 1) := by decide +kernel
theorem dM_factor_94 : decode bM_factor 94 = .ok (.istore 4, 2) := by decide +kernel
theorem dM_factor_96 : decode bM_factor 96 = .ok (.aload_n 0, 1) := by decide +kernel
theorem dM_factor_97 : decode bM_factor 97 = .ok (.getfield 23, 3) := by decide +kernel
theorem dM_factor_100 : decode bM_factor 100 = .ok (.bipush 12, 2) := by decide +kernel
theorem dM_factor_102 : decode bM_factor 102 = .ok (.iload_n 1, 1) := by decide +kernel
theorem dM_factor_103 : decode bM_factor 103 = .ok (.imul, 1) := by decide +kernel
theorem dM_factor_104 : decode bM_factor 104 = .ok (.iload_n 2, 1) := by decide +kernel
theorem dM_factor_105 : decode bM_factor 105 = .ok (.iadd, 1) := by decide +kernel
theorem dM_factor_106 : decode bM_factor 106 = .ok (.iload_n 3, 1) := by decide +kernel
theorem dM_factor_107 : decode bM_factor 107 = .ok (.i2l, 1) := by decide +kernel
theorem dM_factor_108 : decode bM_factor 108 = .ok (.lastore, 1) := by decide +kernel
theorem dM_factor_109 : decode bM_factor 109 = .ok (.iload 4, 2) := by decide +kernel
theorem dM_factor_111 : decode bM_factor 111 = .ok (.ireturn, 1) := by decide +kernel
theorem dM_cut_0 : decode bM_cut 0 = .ok (.aload_n 0, 1) := by decide +kernel
theorem dM_cut_1 : decode bM_cut 1 = .ok (.iload_n 1, 1) := by decide +kernel
theorem dM_cut_2 : decode bM_cut 2 = .ok (.i2l, 1) := by decide +kernel
theorem dM_cut_3 : decode bM_cut 3 = .ok (.lconst 0, 1) := by decide +kernel
theorem dM_cut_4 : decode bM_cut 4 = .ok (.aload_n 0, 1) := by decide +kernel
theorem dM_cut_5 : decode bM_cut 5 = .ok (.getfield 59, 3) := by decide +kernel
theorem dM_cut_8 : decode bM_cut 8 = .ok (.iconst 1, 1) := by decide +kernel
theorem dM_cut_9 : decode bM_cut 9 = .ok (.isub, 1) := by decide +kernel
theorem dM_cut_10 : decode bM_cut 10 = .ok (.i2l, 1) := by decide +kernel
theorem dM_cut_11 : decode bM_cut 11 = .ok (.invokestatic 68, 3) := by decide +kernel
theorem dM_cut_14 : decode bM_cut 14 = .ok (.ifCond .eq 19, 3) := by decide +kernel
theorem dM_cut_17 : decode bM_cut 17 = .ok (.iload_n 2, 1) := by decide +kernel
theorem dM_cut_18 : decode bM_cut 18 = .ok (.i2l, 1) := by decide +kernel
theorem dM_cut_19 : decode bM_cut 19 = .ok (.lconst 0, 1) := by decide +kernel
theorem dM_cut_20 : decode bM_cut 20 = .ok (.aload_n 0, 1) := by decide +kernel
theorem dM_cut_21 : decode bM_cut 21 = .ok (.getfield 59, 3) := by decide +kernel
theorem dM_cut_24 : decode bM_cut 24 = .ok (.iconst 1, 1) := by decide +kernel
theorem dM_cut_25 : decode bM_cut 25 = .ok (.isub, 1) := by decide +kernel
theorem dM_cut_26 : decode bM_cut 26 = .ok (.i2l, 1) := by decide +kernel
theorem dM_cut_27 : decode bM_cut 27 = .ok (.invokestatic 68, 3) := by decide +kernel
theorem dM_cut_30 : decode bM_cut 30 = .ok (.ifCond .ne 7, 3) := by decide +kernel
theorem dM_cut_33 : decode bM_cut 33 = .ok (.iconst 1, 1) := by decide +kernel
theorem dM_cut_34 : decode bM_cut 34 = .ok (.goto 26, 3) := by decide +kernel
theorem dM_cut_37 : decode bM_cut 37 = .ok (.aload_n 0, 1) := by decide +kernel
theorem dM_cut_38 : decode bM_cut 38 = .ok (.getfield 72, 3) := by decide +kernel
theorem dM_cut_41 : decode bM_cut 41 = .ok (.bipush 12, 2) := by decide +kernel
theorem dM_cut_43 : decode bM_cut 43 = .ok (.if_icmp .ne 7, 3) := by decide +kernel
theorem dM_cut_46 : decode bM_cut 46 = .ok (.iconst 2, 1) := by decide +kernel
theorem dM_cut_47 : decode bM_cut 47 = .ok (.goto 13, 3) := by decide +kernel
theorem dM_cut_50 : decode bM_cut 50 = .ok (.iload_n 1, 1) := by decide +kernel
theorem dM_cut_51 : decode bM_cut 51 = .ok (.iload_n 2, 1) := by decide +kernel
theorem dM_cut_52 : decode bM_cut 52 = .ok (.if_icmp .ne 7, 3) := by decide +kernel
theorem dM_cut_55 : decode bM_cut 55 = .ok (.iconst 3, 1) := by decide +kernel
theorem dM_cut_56 : decode bM_cut 56 = .ok (.goto 4, 3) := by decide +kernel
theorem dM_cut_59 : decode bM_cut 59 = .ok (.iconst 0, 1) := by decide +kernel
theorem dM_cut_60 : decode bM_cut 60 = .ok (.putfield 52, 3) := by decide +kernel
theorem dM_cut_63 : decode bM_cut 63 = .ok (.aload_n 0, 1) := by decide +kernel
theorem dM_cut_64 : decode bM_cut 64 = .ok (.getfield 52, 3) := by decide +kernel
theorem dM_cut_67 : decode bM_cut 67 = .ok (.ifCond .le 5, 3) := by decide +kernel
theorem dM_cut_70 : decode bM_cut 70 = .ok (.iconst 0, 1) := by decide +kernel
theorem dM_cut_71 : decode bM_cut 71 = .ok (.ireturn, 1) := by decide +kernel
theorem dM_cut_72 : decode bM_cut 72 = .ok (.aload_n 0, 1) := by decide +kernel
theorem dM_cut_73 : decode bM_cut 73 = .ok (.getfield 23, 3) := by decide +kernel
theorem dM_cut_76 : decode bM_cut 76 = .ok (.bipush 12, 2) := by decide +kernel
theorem dM_cut_78 : decode bM_cut 78 = .ok (.aload_n 0, 1) := by decide +kernel
theorem dM_cut_79 : decode bM_cut 79 = .ok (.getfield 72, 3) := by decide +kernel
theorem dM_cut_82 : decode bM_cut 82 = .ok (.imul, 1) := by decide +kernel
theorem dM_cut_83 : decode bM_cut 83 = .ok (.iload_n 1, 1) := by decide +kernel
theorem dM_cut_84 : decode bM_cut 84 = .ok (.iadd, 1) := by decide +kernel
theorem dM_cut_85 : decode bM_cut 85 = .ok (.lconst 1, 1) := by decide +kernel
theorem dM_cut_86 : decode bM_cut 86 = .ok (.lastore, 1) := by decide +kernel
theorem dM_cut_87 : decode bM_cut 87 = .ok (.aload_n 0, 1) := by decide +kernel
theorem dM_cut_88 : decode bM_cut 88 = .ok (.getfield 23, 3) := by decide +kernel
theorem dM_cut_91 : decode bM_cut 91 = .ok (.bipush 12, 2) := by decide +kernel
theorem dM_cut_93 : decode bM_cut 93 = .ok (.aload_n 0, 1) := by decide +kernel
theorem dM_cut_94 : decode bM_cut 94 = .ok (.getfield 72, 3) := by decide +kernel
theorem dM_cut_97 : decode bM_cut 97 = .ok (.imul, 1) := by decide +kernel
theorem dM_cut_98 : decode bM_cut 98 = .ok (.iload_n 2, 1) := by decide +kernel
theorem dM_cut_99 : decode bM_cut 99 = .ok (.iadd, 1) := by decide +kernel
theorem dM_cut_100 : decode bM_cut 100 = .ok (.lconst 1, 1) := by decide +kernel
theorem dM_cut_101 : decode bM_cut 101 = .ok (.lastore, 1) := by decide +kernel
theorem dM_cut_102 : decode bM_cut 102 = .ok (.aload_n 0, 1) := by decide +kernel
theorem dM_cut_103 : decode bM_cut 103 = .ok (.iconst 1, 1) := by decide +kernel
theorem dM_cut_104 : decode bM_cut 104 = .ok (.iconst 0, 1) := by decide +kernel
theorem dM_cut_105 : decode bM_cut 105 = .ok (.lconst 1, 1) := by decide +kernel
theorem dM_cut_106 : decode bM_cut 106 = .ok (.invokevirtual 81, 3) := by decide +kernel
theorem dM_cut_109 : decode bM_cut 109 = .ok (.ireturn, 1) := by decide +kernel
theorem dM_moved_0 : decode bM_moved 0 = .ok (.aload_n 0, 1) := by decide +kernel
theorem dM_moved_1 : decode bM_moved 1 = .ok (.getfield 33, 3) := by decide +kernel
theorem dM_moved_4 : decode bM_moved 4 = .ok (.iload_n 2, 1) := by decide +kernel
theorem dM_moved_5 : decode bM_moved 5 = .ok (.iaload, 1) := by decide +kernel
theorem dM_moved_6 : decode bM_moved 6 = .ok (.iconst (-1), 1) := by decide +kernel
theorem dM_moved_7 : decode bM_moved 7 = .ok (.if_icmp .ne 22, 3) := by decide +kernel
theorem dM_moved_10 : decode bM_moved 10 = .ok (.iload_n 1, 1) := by decide +kernel
theorem dM_moved_11 : decode bM_moved 11 = .ok (.iload_n 2, 1) := by decide +kernel
theorem dM_moved_12 : decode bM_moved 12 = .ok (.if_icmp .ne 13, 3) := by decide +kernel
theorem dM_moved_15 : decode bM_moved 15 = .ok (.aload_n 0, 1) := by decide +kernel
theorem dM_moved_16 : decode bM_moved 16 = .ok (.getfield 29, 3) := by decide +kernel
theorem dM_moved_19 : decode bM_moved 19 = .ok (.lneg, 1) := by decide +kernel
theorem dM_moved_20 : decode bM_moved 20 = .ok (.lload_n 3, 1) := by decide +kernel
theorem dM_moved_21 : decode bM_moved 21 = .ok (.lmul, 1) := by decide +kernel
theorem dM_moved_22 : decode bM_moved 22 = .ok (.goto 25, 3) := by decide +kernel
theorem dM_moved_25 : decode bM_moved 25 = .ok (.lconst 0, 1) := by decide +kernel
theorem dM_moved_26 : decode bM_moved 26 = .ok (.goto 21, 3) := by decide +kernel
theorem dM_moved_29 : decode bM_moved 29 = .ok (.aload_n 0, 1) := by decide +kernel
theorem dM_moved_30 : decode bM_moved 30 = .ok (.getfield 39, 3) := by decide +kernel
theorem dM_moved_33 : decode bM_moved 33 = .ok (.bipush 13, 2) := by decide +kernel
theorem dM_moved_35 : decode bM_moved 35 = .ok (.iload_n 1, 1) := by decide +kernel
theorem dM_moved_36 : decode bM_moved 36 = .ok (.imul, 1) := by decide +kernel
theorem dM_moved_37 : decode bM_moved 37 = .ok (.aload_n 0, 1) := by decide +kernel
theorem dM_moved_38 : decode bM_moved 38 = .ok (.getfield 33, 3) := by decide +kernel
theorem dM_moved_41 : decode bM_moved 41 = .ok (.iload_n 2, 1) := by decide +kernel
theorem dM_moved_42 : decode bM_moved 42 = .ok (.iaload, 1) := by decide +kernel
theorem dM_moved_43 : decode bM_moved 43 = .ok (.iadd, 1) := by decide +kernel
theorem dM_moved_44 : decode bM_moved 44 = .ok (.laload, 1) := by decide +kernel
theorem dM_moved_45 : decode bM_moved 45 = .ok (.lload_n 3, 1) := by decide +kernel
theorem dM_moved_46 : decode bM_moved 46 = .ok (.lmul, 1) := by decide +kernel
theorem dM_moved_47 : decode bM_moved 47 = .ok (.lreturn, 1) := by decide +kernel
theorem dM_isInside_0 : decode bM_isInside 0 = .ok (.iload_n 1, 1) := by decide +kernel
theorem dM_isInside_1 : decode bM_isInside 1 = .ok (.bipush 36, 2) := by decide +kernel
theorem dM_isInside_3 : decode bM_isInside 3 = .ok (.if_icmp .eq 26, 3) := by decide +kernel
theorem dM_isInside_6 : decode bM_isInside 6 = .ok (.iload_n 1, 1) := by decide +kernel
theorem dM_isInside_7 : decode bM_isInside 7 = .ok (.aload_n 0, 1) := by decide +kernel
theorem dM_isInside_8 : decode bM_isInside 8 = .ok (.getfield 59, 3) := by decide +kernel
theorem dM_isInside_11 : decode bM_isInside 11 = .ok (.aload_n 0, 1) := by decide +kernel
theorem dM_isInside_12 : decode bM_isInside 12 = .ok (.getfield 87, 3) := by decide +kernel
theorem dM_isInside_15 : decode bM_isInside 15 = .ok (.iadd, 1) := by decide +kernel
theorem dM_isInside_16 : decode bM_isInside 16 = .ok (.if_icmp .ge 17, 3) := by decide +kernel
theorem dM_isInside_19 : decode bM_isInside 19 = .ok (.aload_n 0, 1) := by decide +kernel
theorem dM_isInside_20 : decode bM_isInside 20 = .ok (.getfield 33, 3) := by decide +kernel
theorem dM_isInside_23 : decode bM_isInside 23 = .ok (.iload_n 1, 1) := by decide +kernel
theorem dM_isInside_24 : decode bM_isInside 24 = .ok (.iaload, 1) := by decide +kernel
theorem dM_isInside_25 : decode bM_isInside 25 = .ok (.iconst (-1), 1) := by decide +kernel
theorem dM_isInside_26 : decode bM_isInside 26 = .ok (.if_icmp .ne 7, 3) := by decide +kernel
theorem dM_isInside_29 : decode bM_isInside 29 = .ok (.iconst 1, 1) := by decide +kernel
theorem dM_isInside_30 : decode bM_isInside 30 = .ok (.goto 4, 3) := by decide +kernel
theorem dM_isInside_33 : decode bM_isInside 33 = .ok (.iconst 0, 1) := by decide +kernel
theorem dM_isInside_34 : decode bM_isInside 34 = .ok (.ireturn, 1) := by decide +kernel
theorem dM_right_0 : decode bM_right 0 = .ok (.aload_n 0, 1) := by decide +kernel
theorem dM_right_1 : decode bM_right 1 = .ok (.iload_n 1, 1) := by decide +kernel
theorem dM_right_2 : decode bM_right 2 = .ok (.i2l, 1) := by decide +kernel
theorem dM_right_3 : decode bM_right 3 = .ok (.lconst 0, 1) := by decide +kernel
theorem dM_right_4 : decode bM_right 4 = .ok (.aload_n 0, 1) := by decide +kernel
theorem dM_right_5 : decode bM_right 5 = .ok (.getfield 72, 3) := by decide +kernel
theorem dM_right_8 : decode bM_right 8 = .ok (.iconst 1, 1) := by decide +kernel
theorem dM_right_9 : decode bM_right 9 = .ok (.isub, 1) := by decide +kernel
theorem dM_right_10 : decode bM_right 10 = .ok (.i2l, 1) := by decide +kernel
theorem dM_right_11 : decode bM_right 11 = .ok (.invokestatic 68, 3) := by decide +kernel
theorem dM_right_14 : decode bM_right 14 = .ok (.ifCond .ne 7, 3) := by decide +kernel
theorem dM_right_17 : decode bM_right 17 = .ok (.iconst 1, 1) := by decide +kernel
theorem dM_right_18 : decode bM_right 18 = .ok (.goto 21, 3) := by decide +kernel
theorem dM_right_21 : decode bM_right 21 = .ok (.lload_n 2, 1) := by decide +kernel
theorem dM_right_22 : decode bM_right 22 = .ok (.ldc2_w 77, 3) := by decide +kernel
theorem dM_right_25 : decode bM_right 25 = .ok (.ldc2_w 79, 3) := by decide +kernel
theorem dM_right_28 : decode bM_right 28 = .ok (.invokestatic 68, 3) := by decide +kernel
theorem dM_right_31 : decode bM_right 31 = .ok (.ifCond .ne 7, 3) := by decide +kernel
theorem dM_right_34 : decode bM_right 34 = .ok (.iconst 2, 1) := by decide +kernel
theorem dM_right_35 : decode bM_right 35 = .ok (.goto 4, 3) := by decide +kernel
theorem dM_right_38 : decode bM_right 38 = .ok (.iconst 0, 1) := by decide +kernel
theorem dM_right_39 : decode bM_right 39 = .ok (.putfield 52, 3) := by decide +kernel
theorem dM_right_42 : decode bM_right 42 = .ok (.aload_n 0, 1) := by decide +kernel
theorem dM_right_43 : decode bM_right 43 = .ok (.getfield 52, 3) := by decide +kernel
theorem dM_right_46 : decode bM_right 46 = .ok (.ifCond .le 5, 3) := by decide +kernel
theorem dM_right_49 : decode bM_right 49 = .ok (.iconst 0, 1) := by decide +kernel
theorem dM_right_50 : decode bM_right 50 = .ok (.ireturn, 1) := by decide +kernel
theorem dM_right_51 : decode bM_right 51 = .ok (.lload_n 2, 1) := by decide +kernel
theorem dM_right_52 : decode bM_right 52 = .ok (.aload_n 0, 1) := by decide +kernel
theorem dM_right_53 : decode bM_right 53 = .ok (.getfield 20, 3) := by decide +kernel
theorem dM_right_56 : decode bM_right 56 = .ok (.iload_n 1, 1) := by decide +kernel
theorem dM_right_57 : decode bM_right 57 = .ok (.laload, 1) := by decide +kernel
theorem dM_right_58 : decode bM_right 58 = .ok (.lsub, 1) := by decide +kernel
theorem dM_right_59 : decode bM_right 59 = .ok (.lstore 4, 2) := by decide +kernel
theorem dM_right_61 : decode bM_right 61 = .ok (.aload_n 0, 1) := by decide +kernel
theorem dM_right_62 : decode bM_right 62 = .ok (.getfield 26, 3) := by decide +kernel
theorem dM_right_65 : decode bM_right 65 = .ok (.iload_n 1, 1) := by decide +kernel
theorem dM_right_66 : decode bM_right 66 = .ok (.iaload, 1) := by decide +kernel
theorem dM_right_67 : decode bM_right 67 = .ok (.istore 6, 2) := by decide +kernel
theorem dM_right_69 : decode bM_right 69 = .ok (.iconst 1, 1) := by decide +kernel
theorem dM_right_70 : decode bM_right 70 = .ok (.istore 7, 2) := by decide +kernel
theorem dM_right_72 : decode bM_right 72 = .ok (.iconst 0, 1) := by decide +kernel
theorem dM_right_73 : decode bM_right 73 = .ok (.istore 8, 2) := by decide +kernel
theorem dM_right_75 : decode bM_right 75 = .ok (.iload 6, 2) := by decide +kernel
theorem dM_right_77 : decode bM_right 77 = .ok (.iconst (-1), 1) := by decide +kernel
theorem dM_right_78 : decode bM_right 78 = .ok (.if_icmp .eq 141, 3) := by decide +kernel
theorem dM_right_81 : decode bM_right 81 = .ok (.iload 8, 2) := by decide +kernel
theorem dM_right_83 : decode bM_right 83 = .ok (.bipush 36, 2) := by decide +kernel
theorem dM_right_85 : decode bM_right 85 = .ok (.if_icmp .gt 134, 3) := by decide +kernel
theorem dM_right_88 : decode bM_right 88 = .ok (.aload_n 0, 1) := by decide +kernel
theorem dM_right_89 : decode bM_right 89 = .ok (.iload 8, 2) := by decide +kernel
theorem dM_right_91 : decode bM_right 91 = .ok (.invokevirtual 90, 3) := by decide +kernel
theorem dM_right_94 : decode bM_right 94 = .ok (.ifCond .eq 119, 3) := by decide +kernel
theorem dM_right_97 : decode bM_right 97 = .ok (.aload_n 0, 1) := by decide +kernel
theorem dM_right_98 : decode bM_right 98 = .ok (.getfield 13, 3) := by decide +kernel
theorem dM_right_101 : decode bM_right 101 = .ok (.iload_n 1, 1) := by decide +kernel
theorem dM_right_102 : decode bM_right 102 = .ok (.iaload, 1) := by decide +kernel
theorem dM_right_103 : decode bM_right 103 = .ok (.iconst 1, 1) := by decide +kernel
theorem dM_right_104 : decode bM_right 104 = .ok (.if_icmp .ne 17, 3) := by decide +kernel
theorem dM_right_107 : decode bM_right 107 = .ok (.aload_n 0, 1) := by decide +kernel
theorem dM_right_108 : decode bM_right 108 = .ok (.iload 8, 2) := by decide +kernel
theorem dM_right_110 : decode bM_right 110 = .ok (.iload 6, 2) := by decide +kernel
theorem dM_right_112 : decode bM_right 112 = .ok (.lload 4, 2) := by decide +kernel
theorem dM_right_114 : decode bM_right 114 = .ok (.lneg, 1) := by decide +kernel
theorem dM_right_115 : decode bM_right 115 = .ok (.invokevirtual 94, 3) := by decide +kernel
theorem dM_right_118 : decode bM_right 118 = .ok (.goto 13, 3) := by decide +kernel
theorem dM_right_121 : decode bM_right 121 = .ok (.aload_n 0, 1) := by decide +kernel
theorem dM_right_122 : decode bM_right 122 = .ok (.iload 8, 2) := by decide +kernel
theorem dM_right_124 : decode bM_right 124 = .ok (.iload 6, 2) := by decide +kernel
theorem dM_right_126 : decode bM_right 126 = .ok (.lload 4, 2) := by decide +kernel
theorem dM_right_128 : decode bM_right 128 = .ok (.invokevirtual 94, 3) := by decide +kernel
theorem dM_right_131 : decode bM_right 131 = .ok (.lstore 9, 2) := by decide +kernel
theorem dM_right_133 : decode bM_right 133 = .ok (.lload 9, 2) := by decide +kernel
theorem dM_right_135 : decode bM_right 135 = .ok (.aload_n 0, 1) := by decide +kernel
theorem dM_right_136 : decode bM_right 136 = .ok (.getfield 13, 3) := by decide +kernel
theorem dM_right_139 : decode bM_right 139 = .ok (.iload_n 1, 1) := by decide +kernel
theorem dM_right_140 : decode bM_right 140 = .ok (.iaload, 1) := by decide +kernel
theorem dM_right_141 : decode bM_right 141 = .ok (.iconst 2, 1) := by decide +kernel
theorem dM_right_142 : decode bM_right 142 = .ok (.if_icmp .ne 19, 3) := by decide +kernel
theorem dM_right_145 : decode bM_right 145 = .ok (.aload_n 0, 1) := by decide +kernel
theorem dM_right_146 : decode bM_right 146 = .ok (.iload 8, 2) := by decide +kernel
theorem dM_right_148 : decode bM_right 148 = .ok (.iload 6, 2) := by decide +kernel
theorem dM_right_150 : decode bM_right 150 = .ok (.iconst 1, 1) := by decide +kernel
theorem dM_right_151 : decode bM_right 151 = .ok (.iadd, 1) := by decide +kernel
theorem dM_right_152 : decode bM_right 152 = .ok (.lload 4, 2) := by decide +kernel
theorem dM_right_154 : decode bM_right 154 = .ok (.lneg, 1) := by decide +kernel
theorem dM_right_155 : decode bM_right 155 = .ok (.invokevirtual 94, 3) := by decide +kernel
theorem dM_right_158 : decode bM_right 158 = .ok (.goto 4, 3) := by decide +kernel
theorem dM_right_161 : decode bM_right 161 = .ok (.lconst 0, 1) := by decide +kernel
theorem dM_right_162 : decode bM_right 162 = .ok (.ladd, 1) := by decide +kernel
theorem dM_right_163 : decode bM_right 163 = .ok (.lstore 9, 2) := by decide +kernel
theorem dM_right_165 : decode bM_right 165 = .ok (.aload_n 0, 1) := by decide +kernel
theorem dM_right_166 : decode bM_right 166 = .ok (.getfield 42, 3) := by decide +kernel
theorem dM_right_169 : decode bM_right 169 = .ok (.iload 8, 2) := by decide +kernel
theorem dM_right_171 : decode bM_right 171 = .ok (.aload_n 0, 1) := by decide +kernel
theorem dM_right_172 : decode bM_right 172 = .ok (.getfield 39, 3) := by decide +kernel
theorem dM_right_175 : decode bM_right 175 = .ok (.bipush 13, 2) := by decide +kernel
theorem dM_right_177 : decode bM_right 177 = .ok (.iload 8, 2) := by decide +kernel
theorem dM_right_179 : decode bM_right 179 = .ok (.imul, 1) := by decide +kernel
theorem dM_right_180 : decode bM_right 180 = .ok (.bipush 12, 2) := by decide +kernel
theorem dM_right_182 : decode bM_right 182 = .ok (.iadd, 1) := by decide +kernel
theorem dM_right_183 : decode bM_right 183 = .ok (.laload, 1) := by decide +kernel
theorem dM_right_184 : decode bM_right 184 = .ok (.lload 9, 2) := by decide +kernel
theorem dM_right_186 : decode bM_right 186 = .ok (.ladd, 1) := by decide +kernel
theorem dM_right_187 : decode bM_right 187 = .ok (.lastore, 1) := by decide +kernel
theorem dM_right_188 : decode bM_right 188 = .ok (.iload 7, 2) := by decide +kernel
theorem dM_right_190 : decode bM_right 190 = .ok (.ifCond .eq 20, 3) := by decide +kernel
theorem dM_right_193 : decode bM_right 193 = .ok (.aload_n 0, 1) := by decide +kernel
theorem dM_right_194 : decode bM_right 194 = .ok (.getfield 42, 3) := by decide +kernel
theorem dM_right_197 : decode bM_right 197 = .ok (.iload 8, 2) := by decide +kernel
theorem dM_right_199 : decode bM_right 199 = .ok (.laload, 1) := by decide +kernel
theorem dM_right_200 : decode bM_right 200 = .ok (.invokestatic 98, 3) := by decide +kernel
theorem dM_right_203 : decode bM_right 203 = .ok (.ifCond .ne 7, 3) := by decide +kernel
theorem dM_right_206 : decode bM_right 206 = .ok (.iconst 1, 1) := by decide +kernel
theorem dM_right_207 : decode bM_right 207 = .ok (.goto 4, 3) := by decide +kernel
theorem dM_right_210 : decode bM_right 210 = .ok (.iconst 0, 1) := by decide +kernel
theorem dM_right_211 : decode bM_right 211 = .ok (.istore 7, 2) := by decide +kernel
theorem dM_right_213 : decode bM_right 213 = .ok (.iinc 8 1, 3) := by decide +kernel
theorem dM_right_216 : decode bM_right 216 = .ok (.goto (-141), 3) := by decide +kernel
theorem dM_right_219 : decode bM_right 219 = .ok (.iload 7, 2) := by decide +kernel
theorem dM_right_221 : decode bM_right 221 = .ok (.ifCond .ne 5, 3) := by decide +kernel
theorem dM_right_224 : decode bM_right 224 = .ok (.iconst 0, 1) := by decide +kernel
theorem dM_right_225 : decode bM_right 225 = .ok (.ireturn, 1) := by decide +kernel
theorem dM_right_226 : decode bM_right 226 = .ok (.iconst 0, 1) := by decide +kernel
theorem dM_right_227 : decode bM_right 227 = .ok (.istore 8, 2) := by decide +kernel
theorem dM_right_229 : decode bM_right 229 = .ok (.iload 6, 2) := by decide +kernel
theorem dM_right_231 : decode bM_right 231 = .ok (.iconst (-1), 1) := by decide +kernel
theorem dM_right_232 : decode bM_right 232 = .ok (.if_icmp .eq 45, 3) := by decide +kernel
theorem dM_right_235 : decode bM_right 235 = .ok (.iload 8, 2) := by decide +kernel
theorem dM_right_237 : decode bM_right 237 = .ok (.bipush 36, 2) := by decide +kernel
theorem dM_right_239 : decode bM_right 239 = .ok (.if_icmp .gt 38, 3) := by decide +kernel
theorem dM_right_242 : decode bM_right 242 = .ok (.aload_n 0, 1) := by decide +kernel
theorem dM_right_243 : decode bM_right 243 = .ok (.iload 8, 2) := by decide +kernel
theorem dM_right_245 : decode bM_right 245 = .ok (.invokevirtual 90, 3) := by decide +kernel
theorem dM_right_248 : decode bM_right 248 = .ok (.ifCond .eq 23, 3) := by decide +kernel
theorem dM_right_251 : decode bM_right 251 = .ok (.aload_n 0, 1) := by decide +kernel
theorem dM_right_252 : decode bM_right 252 = .ok (.getfield 39, 3) := by decide +kernel
theorem dM_right_255 : decode bM_right 255 = .ok (.bipush 13, 2) := by decide +kernel
theorem dM_right_257 : decode bM_right 257 = .ok (.iload 8, 2) := by decide +kernel
theorem dM_right_259 : decode bM_right 259 = .ok (.imul, 1) := by decide +kernel
theorem dM_right_260 : decode bM_right 260 = .ok (.bipush 12, 2) := by decide +kernel
theorem dM_right_262 : decode bM_right 262 = .ok (.iadd, 1) := by decide +kernel
theorem dM_right_263 : decode bM_right 263 = .ok (.aload_n 0, 1) := by decide +kernel
theorem dM_right_264 : decode bM_right 264 = .ok (.getfield 42, 3) := by decide +kernel
theorem dM_right_267 : decode bM_right 267 = .ok (.iload 8, 2) := by decide +kernel
theorem dM_right_269 : decode bM_right 269 = .ok (.laload, 1) := by decide +kernel
theorem dM_right_270 : decode bM_right 270 = .ok (.lastore, 1) := by decide +kernel
theorem dM_right_271 : decode bM_right 271 = .ok (.iinc 8 1, 3) := by decide +kernel
theorem dM_right_274 : decode bM_right 274 = .ok (.goto (-45), 3) := by decide +kernel
theorem dM_right_277 : decode bM_right 277 = .ok (.aload_n 0, 1) := by decide +kernel
theorem dM_right_278 : decode bM_right 278 = .ok (.getfield 20, 3) := by decide +kernel
theorem dM_right_281 : decode bM_right 281 = .ok (.iload_n 1, 1) := by decide +kernel
theorem dM_right_282 : decode bM_right 282 = .ok (.lload_n 2, 1) := by decide +kernel
theorem dM_right_283 : decode bM_right 283 = .ok (.lastore, 1) := by decide +kernel
theorem dM_right_284 : decode bM_right 284 = .ok (.aload_n 0, 1) := by decide +kernel
theorem dM_right_285 : decode bM_right 285 = .ok (.iconst (-1), 1) := by decide +kernel
theorem dM_right_286 : decode bM_right 286 = .ok (.putfield 45, 3) := by decide +kernel
theorem dM_right_289 : decode bM_right 289 = .ok (.iconst 1, 1) := by decide +kernel
theorem dM_right_290 : decode bM_right 290 = .ok (.ireturn, 1) := by decide +kernel
theorem dM_sum_0 : decode bM_sum 0 = .ok (.iload_n 2, 1) := by decide +kernel
theorem dM_sum_1 : decode bM_sum 1 = .ok (.bipush 12, 2) := by decide +kernel
theorem dM_sum_3 : decode bM_sum 3 = .ok (.if_icmp .ne 18, 3) := by decide +kernel
theorem dM_sum_6 : decode bM_sum 6 = .ok (.aload_n 0, 1) := by decide +kernel
theorem dM_sum_7 : decode bM_sum 7 = .ok (.getfield 29, 3) := by decide +kernel
theorem dM_sum_10 : decode bM_sum 10 = .ok (.lneg, 1) := by decide +kernel
theorem dM_sum_11 : decode bM_sum 11 = .ok (.aload_n 0, 1) := by decide +kernel
theorem dM_sum_12 : decode bM_sum 12 = .ok (.getfield 20, 3) := by decide +kernel
theorem dM_sum_15 : decode bM_sum 15 = .ok (.iload_n 1, 1) := by decide +kernel
theorem dM_sum_16 : decode bM_sum 16 = .ok (.laload, 1) := by decide +kernel
theorem dM_sum_17 : decode bM_sum 17 = .ok (.lmul, 1) := by decide +kernel
theorem dM_sum_18 : decode bM_sum 18 = .ok (.goto 4, 3) := by decide +kernel
theorem dM_sum_21 : decode bM_sum 21 = .ok (.lconst 0, 1) := by decide +kernel
theorem dM_sum_22 : decode bM_sum 22 = .ok (.lstore_n 3, 1) := by decide +kernel
theorem dM_sum_23 : decode bM_sum 23 = .ok (.iconst 0, 1) := by decide +kernel
theorem dM_sum_24 : decode bM_sum 24 = .ok (.istore 5, 2) := by decide +kernel
theorem dM_sum_26 : decode bM_sum 26 = .ok (.iload 5, 2) := by decide +kernel
theorem dM_sum_28 : decode bM_sum 28 = .ok (.aload_n 0, 1) := by decide +kernel
theorem dM_sum_29 : decode bM_sum 29 = .ok (.getfield 59, 3) := by decide +kernel
theorem dM_sum_32 : decode bM_sum 32 = .ok (.if_icmp .ge 74, 3) := by decide +kernel
theorem dM_sum_35 : decode bM_sum 35 = .ok (.aload_n 0, 1) := by decide +kernel
theorem dM_sum_36 : decode bM_sum 36 = .ok (.getfield 33, 3) := by decide +kernel
theorem dM_sum_39 : decode bM_sum 39 = .ok (.iload 5, 2) := by decide +kernel
theorem dM_sum_41 : decode bM_sum 41 = .ok (.iaload, 1) := by decide +kernel
theorem dM_sum_42 : decode bM_sum 42 = .ok (.iconst (-1), 1) := by decide +kernel
theorem dM_sum_43 : decode bM_sum 43 = .ok (.if_icmp .ne 18, 3) := by decide +kernel
theorem dM_sum_46 : decode bM_sum 46 = .ok (.aload_n 0, 1) := by decide +kernel
theorem dM_sum_47 : decode bM_sum 47 = .ok (.getfield 39, 3) := by decide +kernel
theorem dM_sum_50 : decode bM_sum 50 = .ok (.bipush 13, 2) := by decide +kernel
theorem dM_sum_52 : decode bM_sum 52 = .ok (.iload 5, 2) := by decide +kernel
theorem dM_sum_54 : decode bM_sum 54 = .ok (.imul, 1) := by decide +kernel
theorem dM_sum_55 : decode bM_sum 55 = .ok (.iload_n 2, 1) := by decide +kernel
theorem dM_sum_56 : decode bM_sum 56 = .ok (.iadd, 1) := by decide +kernel
theorem dM_sum_57 : decode bM_sum 57 = .ok (.laload, 1) := by decide +kernel
theorem dM_sum_58 : decode bM_sum 58 = .ok (.goto 22, 3) := by decide +kernel
theorem dM_sum_61 : decode bM_sum 61 = .ok (.aload_n 0, 1) := by decide +kernel
theorem dM_sum_62 : decode bM_sum 62 = .ok (.getfield 33, 3) := by decide +kernel
theorem dM_sum_65 : decode bM_sum 65 = .ok (.iload 5, 2) := by decide +kernel
theorem dM_sum_67 : decode bM_sum 67 = .ok (.iaload, 1) := by decide +kernel
theorem dM_sum_68 : decode bM_sum 68 = .ok (.iload_n 2, 1) := by decide +kernel
theorem dM_sum_69 : decode bM_sum 69 = .ok (.if_icmp .ne 10, 3) := by decide +kernel
theorem dM_sum_72 : decode bM_sum 72 = .ok (.aload_n 0, 1) := by decide +kernel
theorem dM_sum_73 : decode bM_sum 73 = .ok (.getfield 29, 3) := by decide +kernel
theorem dM_sum_76 : decode bM_sum 76 = .ok (.goto 4, 3) := by decide +kernel
theorem dM_sum_79 : decode bM_sum 79 = .ok (.lconst 0, 1) := by decide +kernel
theorem dM_sum_80 : decode bM_sum 80 = .ok (.lstore 6, 2) := by decide +kernel
theorem dM_sum_82 : decode bM_sum 82 = .ok (.lload_n 3, 1) := by decide +kernel
theorem dM_sum_83 : decode bM_sum 83 = .ok (.aload_n 0, 1) := by decide +kernel
theorem dM_sum_84 : decode bM_sum 84 = .ok (.getfield 23, 3) := by decide +kernel
theorem dM_sum_87 : decode bM_sum 87 = .ok (.bipush 12, 2) := by decide +kernel
theorem dM_sum_89 : decode bM_sum 89 = .ok (.iload_n 1, 1) := by decide +kernel
theorem dM_sum_90 : decode bM_sum 90 = .ok (.imul, 1) := by decide +kernel
theorem dM_sum_91 : decode bM_sum 91 = .ok (.iload 5, 2) := by decide +kernel
theorem dM_sum_93 : decode bM_sum 93 = .ok (.iadd, 1) := by decide +kernel
theorem dM_sum_94 : decode bM_sum 94 = .ok (.laload, 1) := by decide +kernel
theorem dM_sum_95 : decode bM_sum 95 = .ok (.lload 6, 2) := by decide +kernel
theorem dM_sum_97 : decode bM_sum 97 = .ok (.lmul, 1) := by decide +kernel
theorem dM_sum_98 : decode bM_sum 98 = .ok (.ladd, 1) := by decide +kernel
theorem dM_sum_99 : decode bM_sum 99 = .ok (.lstore_n 3, 1) := by decide +kernel
theorem dM_sum_100 : decode bM_sum 100 = .ok (.iinc 5 1, 3) := by decide +kernel
theorem dM_sum_103 : decode bM_sum 103 = .ok (.goto (-77), 3) := by decide +kernel
theorem dM_sum_106 : decode bM_sum 106 = .ok (.lload_n 3, 1) := by decide +kernel
theorem dM_sum_107 : decode bM_sum 107 = .ok (.lreturn, 1) := by decide +kernel
theorem dM_comes_0 : decode bM_comes 0 = .ok (.iconst 1, 1) := by decide +kernel
theorem dM_comes_1 : decode bM_comes 1 = .ok (.istore_n 2, 1) := by decide +kernel
theorem dM_comes_2 : decode bM_comes 2 = .ok (.iconst 0, 1) := by decide +kernel
theorem dM_comes_3 : decode bM_comes 3 = .ok (.istore_n 3, 1) := by decide +kernel
theorem dM_comes_4 : decode bM_comes 4 = .ok (.iload_n 3, 1) := by decide +kernel
theorem dM_comes_5 : decode bM_comes 5 = .ok (.aload_n 0, 1) := by decide +kernel
theorem dM_comes_6 : decode bM_comes 6 = .ok (.getfield 59, 3) := by decide +kernel
theorem dM_comes_9 : decode bM_comes 9 = .ok (.if_icmp .gt 48, 3) := by decide +kernel
theorem dM_comes_12 : decode bM_comes 12 = .ok (.iload_n 3, 1) := by decide +kernel
theorem dM_comes_13 : decode bM_comes 13 = .ok (.aload_n 0, 1) := by decide +kernel
theorem dM_comes_14 : decode bM_comes 14 = .ok (.getfield 59, 3) := by decide +kernel
theorem dM_comes_17 : decode bM_comes 17 = .ok (.if_icmp .ne 8, 3) := by decide +kernel
theorem dM_comes_20 : decode bM_comes 20 = .ok (.bipush 12, 2) := by decide +kernel
theorem dM_comes_22 : decode bM_comes 22 = .ok (.goto 4, 3) := by decide +kernel
theorem dM_comes_25 : decode bM_comes 25 = .ok (.iload_n 3, 1) := by decide +kernel
theorem dM_comes_26 : decode bM_comes 26 = .ok (.istore 4, 2) := by decide +kernel
theorem dM_comes_28 : decode bM_comes 28 = .ok (.iload_n 2, 1) := by decide +kernel
theorem dM_comes_29 : decode bM_comes 29 = .ok (.ifCond .eq 20, 3) := by decide +kernel
theorem dM_comes_32 : decode bM_comes 32 = .ok (.aload_n 0, 1) := by decide +kernel
theorem dM_comes_33 : decode bM_comes 33 = .ok (.iload_n 1, 1) := by decide +kernel
theorem dM_comes_34 : decode bM_comes 34 = .ok (.iload 4, 2) := by decide +kernel
theorem dM_comes_36 : decode bM_comes 36 = .ok (.invokevirtual 102, 3) := by decide +kernel
theorem dM_comes_39 : decode bM_comes 39 = .ok (.invokestatic 98, 3) := by decide +kernel
theorem dM_comes_42 : decode bM_comes 42 = .ok (.ifCond .ne 7, 3) := by decide +kernel
theorem dM_comes_45 : decode bM_comes 45 = .ok (.iconst 1, 1) := by decide +kernel
theorem dM_comes_46 : decode bM_comes 46 = .ok (.goto 4, 3) := by decide +kernel
theorem dM_comes_49 : decode bM_comes 49 = .ok (.iconst 0, 1) := by decide +kernel
theorem dM_comes_50 : decode bM_comes 50 = .ok (.istore_n 2, 1) := by decide +kernel
theorem dM_comes_51 : decode bM_comes 51 = .ok (.iinc 3 1, 3) := by decide +kernel
theorem dM_comes_54 : decode bM_comes 54 = .ok (.goto (-50), 3) := by decide +kernel
theorem dM_comes_57 : decode bM_comes 57 = .ok (.iload_n 2, 1) := by decide +kernel
theorem dM_comes_58 : decode bM_comes 58 = .ok (.ifCond .ne 5, 3) := by decide +kernel
theorem dM_comes_61 : decode bM_comes 61 = .ok (.iconst 0, 1) := by decide +kernel
theorem dM_comes_62 : decode bM_comes 62 = .ok (.ireturn, 1) := by decide +kernel
theorem dM_comes_63 : decode bM_comes 63 = .ok (.aload_n 0, 1) := by decide +kernel
theorem dM_comes_64 : decode bM_comes 64 = .ok (.getfield 13, 3) := by decide +kernel
theorem dM_comes_67 : decode bM_comes 67 = .ok (.iload_n 1, 1) := by decide +kernel
theorem dM_comes_68 : decode bM_comes 68 = .ok (.iaload, 1) := by decide +kernel
theorem dM_comes_69 : decode bM_comes 69 = .ok (.iconst 2, 1) := by decide +kernel
theorem dM_comes_70 : decode bM_comes 70 = .ok (.if_icmp .ne 7, 3) := by decide +kernel
theorem dM_comes_73 : decode bM_comes 73 = .ok (.iconst 2, 1) := by decide +kernel
theorem dM_comes_74 : decode bM_comes 74 = .ok (.goto 4, 3) := by decide +kernel
theorem dM_comes_77 : decode bM_comes 77 = .ok (.iconst 1, 1) := by decide +kernel
theorem dM_comes_78 : decode bM_comes 78 = .ok (.istore_n 3, 1) := by decide +kernel
theorem dM_comes_79 : decode bM_comes 79 = .ok (.iconst 0, 1) := by decide +kernel
theorem dM_comes_80 : decode bM_comes 80 = .ok (.istore 4, 2) := by decide +kernel
theorem dM_comes_82 : decode bM_comes 82 = .ok (.iload 4, 2) := by decide +kernel
theorem dM_comes_84 : decode bM_comes 84 = .ok (.iload_n 3, 1) := by decide +kernel
theorem dM_comes_85 : decode bM_comes 85 = .ok (.if_icmp .ge 118, 3) := by decide +kernel
theorem dM_comes_88 : decode bM_comes 88 = .ok (.aload_n 0, 1) := by decide +kernel
theorem dM_comes_89 : decode bM_comes 89 = .ok (.getfield 59, 3) := by decide +kernel
theorem dM_comes_92 : decode bM_comes 92 = .ok (.aload_n 0, 1) := by decide +kernel
theorem dM_comes_93 : decode bM_comes 93 = .ok (.getfield 87, 3) := by decide +kernel
theorem dM_comes_96 : decode bM_comes 96 = .ok (.iadd, 1) := by decide +kernel
theorem dM_comes_97 : decode bM_comes 97 = .ok (.iload 4, 2) := by decide +kernel
theorem dM_comes_99 : decode bM_comes 99 = .ok (.iadd, 1) := by decide +kernel
theorem dM_comes_100 : decode bM_comes 100 = .ok (.istore 5, 2) := by decide +kernel
theorem dM_comes_102 : decode bM_comes 102 = .ok (.aload_n 0, 1) := by decide +kernel
theorem dM_comes_103 : decode bM_comes 103 = .ok (.getfield 13, 3) := by decide +kernel
theorem dM_comes_106 : decode bM_comes 106 = .ok (.iload_n 1, 1) := by decide +kernel
theorem dM_comes_107 : decode bM_comes 107 = .ok (.iaload, 1) := by decide +kernel
theorem dM_comes_108 : decode bM_comes 108 = .ok (.iconst 1, 1) := by decide +kernel
theorem dM_comes_109 : decode bM_comes 109 = .ok (.if_icmp .eq 9, 3) := by decide +kernel
theorem dM_comes_112 : decode bM_comes 112 = .ok (.iload 4, 2) := by decide +kernel
theorem dM_comes_114 : decode bM_comes 114 = .ok (.iconst 1, 1) := by decide +kernel
theorem dM_comes_115 : decode bM_comes 115 = .ok (.if_icmp .ne 7, 3) := by decide +kernel
theorem dM_comes_118 : decode bM_comes 118 = .ok (.iconst 1, 1) := by decide +kernel
theorem dM_comes_119 : decode bM_comes 119 = .ok (.goto 4, 3) := by decide +kernel
theorem dM_comes_122 : decode bM_comes 122 = .ok (.iconst 0, 1) := by decide +kernel
theorem dM_comes_123 : decode bM_comes 123 = .ok (.istore 6, 2) := by decide +kernel
theorem dM_comes_125 : decode bM_comes 125 = .ok (.iconst 0, 1) := by decide +kernel
theorem dM_comes_126 : decode bM_comes 126 = .ok (.istore 7, 2) := by decide +kernel
theorem dM_comes_128 : decode bM_comes 128 = .ok (.iload 7, 2) := by decide +kernel
theorem dM_comes_130 : decode bM_comes 130 = .ok (.aload_n 0, 1) := by decide +kernel
theorem dM_comes_131 : decode bM_comes 131 = .ok (.getfield 59, 3) := by decide +kernel
theorem dM_comes_134 : decode bM_comes 134 = .ok (.if_icmp .gt 63, 3) := by decide +kernel
theorem dM_comes_137 : decode bM_comes 137 = .ok (.iload 7, 2) := by decide +kernel
theorem dM_comes_139 : decode bM_comes 139 = .ok (.aload_n 0, 1) := by decide +kernel
theorem dM_comes_140 : decode bM_comes 140 = .ok (.getfield 59, 3) := by decide +kernel
theorem dM_comes_143 : decode bM_comes 143 = .ok (.if_icmp .ne 8, 3) := by decide +kernel
theorem dM_comes_146 : decode bM_comes 146 = .ok (.bipush 12, 2) := by decide +kernel
theorem dM_comes_148 : decode bM_comes 148 = .ok (.goto 5, 3) := by decide +kernel
theorem dM_comes_151 : decode bM_comes 151 = .ok (.iload 7, 2) := by decide +kernel
theorem dM_comes_153 : decode bM_comes 153 = .ok (.istore 8, 2) := by decide +kernel
theorem dM_comes_155 : decode bM_comes 155 = .ok (.aload_n 0, 1) := by decide +kernel
theorem dM_comes_156 : decode bM_comes 156 = .ok (.getfield 39, 3) := by decide +kernel
theorem dM_comes_159 : decode bM_comes 159 = .ok (.bipush 13, 2) := by decide +kernel
theorem dM_comes_161 : decode bM_comes 161 = .ok (.iload 5, 2) := by decide +kernel
theorem dM_comes_163 : decode bM_comes 163 = .ok (.imul, 1) := by decide +kernel
theorem dM_comes_164 : decode bM_comes 164 = .ok (.iload 8, 2) := by decide +kernel
theorem dM_comes_166 : decode bM_comes 166 = .ok (.iadd, 1) := by decide +kernel
theorem dM_comes_167 : decode bM_comes 167 = .ok (.iload 6, 2) := by decide +kernel
theorem dM_comes_169 : decode bM_comes 169 = .ok (.ifCond .eq 14, 3) := by decide +kernel
theorem dM_comes_172 : decode bM_comes 172 = .ok (.aload_n 0, 1) := by decide +kernel
theorem dM_comes_173 : decode bM_comes 173 = .ok (.iload_n 1, 1) := by decide +kernel
theorem dM_comes_174 : decode bM_comes 174 = .ok (.iload 8, 2) := by decide +kernel
theorem dM_comes_176 : decode bM_comes 176 = .ok (.invokevirtual 102, 3) := by decide +kernel
theorem dM_comes_179 : decode bM_comes 179 = .ok (.lneg, 1) := by decide +kernel
theorem dM_comes_180 : decode bM_comes 180 = .ok (.goto 10, 3) := by decide +kernel
theorem dM_comes_183 : decode bM_comes 183 = .ok (.aload_n 0, 1) := by decide +kernel
theorem dM_comes_184 : decode bM_comes 184 = .ok (.iload_n 1, 1) := by decide +kernel
theorem dM_comes_185 : decode bM_comes 185 = .ok (.iload 8, 2) := by decide +kernel
theorem dM_comes_187 : decode bM_comes 187 = .ok (.invokevirtual 102, 3) := by decide +kernel
theorem dM_comes_190 : decode bM_comes 190 = .ok (.lastore, 1) := by decide +kernel
theorem dM_comes_191 : decode bM_comes 191 = .ok (.iinc 7 1, 3) := by decide +kernel
theorem dM_comes_194 : decode bM_comes 194 = .ok (.goto (-66), 3) := by decide +kernel
theorem dM_comes_197 : decode bM_comes 197 = .ok (.iinc 4 1, 3) := by decide +kernel
theorem dM_comes_200 : decode bM_comes 200 = .ok (.goto (-118), 3) := by decide +kernel
theorem dM_comes_203 : decode bM_comes 203 = .ok (.aload_n 0, 1) := by decide +kernel
theorem dM_comes_204 : decode bM_comes 204 = .ok (.getfield 26, 3) := by decide +kernel
theorem dM_comes_207 : decode bM_comes 207 = .ok (.iload_n 1, 1) := by decide +kernel
theorem dM_comes_208 : decode bM_comes 208 = .ok (.aload_n 0, 1) := by decide +kernel
theorem dM_comes_209 : decode bM_comes 209 = .ok (.getfield 59, 3) := by decide +kernel
theorem dM_comes_212 : decode bM_comes 212 = .ok (.aload_n 0, 1) := by decide +kernel
theorem dM_comes_213 : decode bM_comes 213 = .ok (.getfield 87, 3) := by decide +kernel
theorem dM_comes_216 : decode bM_comes 216 = .ok (.iadd, 1) := by decide +kernel
theorem dM_comes_217 : decode bM_comes 217 = .ok (.iastore, 1) := by decide +kernel
theorem dM_comes_218 : decode bM_comes 218 = .ok (.aload_n 0, 1) := by decide +kernel
theorem dM_comes_219 : decode bM_comes 219 = .ok (.dup, 1) := by decide +kernel
theorem dM_comes_220 : decode bM_comes 220 = .ok (.getfield 87, 3) := by decide +kernel
theorem dM_comes_223 : decode bM_comes 223 = .ok (.iload_n 3, 1) := by decide +kernel
theorem dM_comes_224 : decode bM_comes 224 = .ok (.iadd, 1) := by decide +kernel
theorem dM_comes_225 : decode bM_comes 225 = .ok (.putfield 87, 3) := by decide +kernel
theorem dM_comes_228 : decode bM_comes 228 = .ok (.iconst 1, 1) := by decide +kernel
theorem dM_comes_229 : decode bM_comes 229 = .ok (.ireturn, 1) := by decide +kernel
theorem dM_leaving_0 : decode bM_leaving 0 = .ok (.iconst 0, 1) := by decide +kernel
theorem dM_leaving_1 : decode bM_leaving 1 = .ok (.istore_n 1, 1) := by decide +kernel
theorem dM_leaving_2 : decode bM_leaving 2 = .ok (.iload_n 1, 1) := by decide +kernel
theorem dM_leaving_3 : decode bM_leaving 3 = .ok (.aload_n 0, 1) := by decide +kernel
theorem dM_leaving_4 : decode bM_leaving 4 = .ok (.getfield 59, 3) := by decide +kernel
theorem dM_leaving_7 : decode bM_leaving 7 = .ok (.aload_n 0, 1) := by decide +kernel
theorem dM_leaving_8 : decode bM_leaving 8 = .ok (.getfield 87, 3) := by decide +kernel
theorem dM_leaving_11 : decode bM_leaving 11 = .ok (.iadd, 1) := by decide +kernel
theorem dM_leaving_12 : decode bM_leaving 12 = .ok (.if_icmp .ge 38, 3) := by decide +kernel
theorem dM_leaving_15 : decode bM_leaving 15 = .ok (.aload_n 0, 1) := by decide +kernel
theorem dM_leaving_16 : decode bM_leaving 16 = .ok (.getfield 33, 3) := by decide +kernel
theorem dM_leaving_19 : decode bM_leaving 19 = .ok (.iload_n 1, 1) := by decide +kernel
theorem dM_leaving_20 : decode bM_leaving 20 = .ok (.iaload, 1) := by decide +kernel
theorem dM_leaving_21 : decode bM_leaving 21 = .ok (.iconst (-1), 1) := by decide +kernel
theorem dM_leaving_22 : decode bM_leaving 22 = .ok (.if_icmp .ne 22, 3) := by decide +kernel
theorem dM_leaving_25 : decode bM_leaving 25 = .ok (.aload_n 0, 1) := by decide +kernel
theorem dM_leaving_26 : decode bM_leaving 26 = .ok (.getfield 39, 3) := by decide +kernel
theorem dM_leaving_29 : decode bM_leaving 29 = .ok (.bipush 13, 2) := by decide +kernel
theorem dM_leaving_31 : decode bM_leaving 31 = .ok (.iload_n 1, 1) := by decide +kernel
theorem dM_leaving_32 : decode bM_leaving 32 = .ok (.imul, 1) := by decide +kernel
theorem dM_leaving_33 : decode bM_leaving 33 = .ok (.bipush 12, 2) := by decide +kernel
theorem dM_leaving_35 : decode bM_leaving 35 = .ok (.iadd, 1) := by decide +kernel
theorem dM_leaving_36 : decode bM_leaving 36 = .ok (.laload, 1) := by decide +kernel
theorem dM_leaving_37 : decode bM_leaving 37 = .ok (.lconst 0, 1) := by decide +kernel
theorem dM_leaving_38 : decode bM_leaving 38 = .ok (.lcmp, 1) := by decide +kernel
theorem dM_leaving_39 : decode bM_leaving 39 = .ok (.ifCond .ge 5, 3) := by decide +kernel
theorem dM_leaving_42 : decode bM_leaving 42 = .ok (.iload_n 1, 1) := by decide +kernel
theorem dM_leaving_43 : decode bM_leaving 43 = .ok (.ireturn, 1) := by decide +kernel
theorem dM_leaving_44 : decode bM_leaving 44 = .ok (.iinc 1 1, 3) := by decide +kernel
theorem dM_leaving_47 : decode bM_leaving 47 = .ok (.goto (-45), 3) := by decide +kernel
theorem dM_leaving_50 : decode bM_leaving 50 = .ok (.iconst (-1), 1) := by decide +kernel
theorem dM_leaving_51 : decode bM_leaving 51 = .ok (.ireturn, 1) := by decide +kernel
theorem dM_entering_0 : decode bM_entering 0 = .ok (.iconst (-1), 1) := by decide +kernel
theorem dM_entering_1 : decode bM_entering 1 = .ok (.istore_n 2, 1) := by decide +kernel
theorem dM_entering_2 : decode bM_entering 2 = .ok (.iconst 0, 1) := by decide +kernel
theorem dM_entering_3 : decode bM_entering 3 = .ok (.istore_n 3, 1) := by decide +kernel
theorem dM_entering_4 : decode bM_entering 4 = .ok (.iload_n 3, 1) := by decide +kernel
theorem dM_entering_5 : decode bM_entering 5 = .ok (.aload_n 0, 1) := by decide +kernel
theorem dM_entering_6 : decode bM_entering 6 = .ok (.getfield 59, 3) := by decide +kernel
theorem dM_entering_9 : decode bM_entering 9 = .ok (.if_icmp .ge 125, 3) := by decide +kernel
theorem dM_entering_12 : decode bM_entering 12 = .ok (.aload_n 0, 1) := by decide +kernel
theorem dM_entering_13 : decode bM_entering 13 = .ok (.getfield 39, 3) := by decide +kernel
theorem dM_entering_16 : decode bM_entering 16 = .ok (.bipush 13, 2) := by decide +kernel
theorem dM_entering_18 : decode bM_entering 18 = .ok (.iload_n 1, 1) := by decide +kernel
theorem dM_entering_19 : decode bM_entering 19 = .ok (.imul, 1) := by decide +kernel
theorem dM_entering_20 : decode bM_entering 20 = .ok (.iload_n 3, 1) := by decide +kernel
theorem dM_entering_21 : decode bM_entering 21 = .ok (.iadd, 1) := by decide +kernel
theorem dM_entering_22 : decode bM_entering 22 = .ok (.laload, 1) := by decide +kernel
theorem dM_entering_23 : decode bM_entering 23 = .ok (.lstore 4, 2) := by decide +kernel
theorem dM_entering_25 : decode bM_entering 25 = .ok (.lload 4, 2) := by decide +kernel
theorem dM_entering_27 : decode bM_entering 27 = .ok (.lconst 0, 1) := by decide +kernel
theorem dM_entering_28 : decode bM_entering 28 = .ok (.lcmp, 1) := by decide +kernel
theorem dM_entering_29 : decode bM_entering 29 = .ok (.ifCond .le 99, 3) := by decide +kernel
theorem dM_entering_32 : decode bM_entering 32 = .ok (.iload_n 2, 1) := by decide +kernel
theorem dM_entering_33 : decode bM_entering 33 = .ok (.iconst (-1), 1) := by decide +kernel
theorem dM_entering_34 : decode bM_entering 34 = .ok (.if_icmp .ne 9, 3) := by decide +kernel
theorem dM_entering_37 : decode bM_entering 37 = .ok (.ldc2_w 106, 3) := by decide +kernel
theorem dM_entering_40 : decode bM_entering 40 = .ok (.goto 25, 3) := by decide +kernel
theorem dM_entering_43 : decode bM_entering 43 = .ok (.aload_n 0, 1) := by decide +kernel
theorem dM_entering_44 : decode bM_entering 44 = .ok (.getfield 39, 3) := by decide +kernel
theorem dM_entering_47 : decode bM_entering 47 = .ok (.sipush 468, 3) := by decide +kernel
theorem dM_entering_50 : decode bM_entering 50 = .ok (.iload_n 3, 1) := by decide +kernel
theorem dM_entering_51 : decode bM_entering 51 = .ok (.iadd, 1) := by decide +kernel
theorem dM_entering_52 : decode bM_entering 52 = .ok (.laload, 1) := by decide +kernel
theorem dM_entering_53 : decode bM_entering 53 = .ok (.aload_n 0, 1) := by decide +kernel
theorem dM_entering_54 : decode bM_entering 54 = .ok (.getfield 39, 3) := by decide +kernel
theorem dM_entering_57 : decode bM_entering 57 = .ok (.bipush 13, 2) := by decide +kernel
theorem dM_entering_59 : decode bM_entering 59 = .ok (.iload_n 1, 1) := by decide +kernel
theorem dM_entering_60 : decode bM_entering 60 = .ok (.imul, 1) := by decide +kernel
theorem dM_entering_61 : decode bM_entering 61 = .ok (.iload_n 2, 1) := by decide +kernel
theorem dM_entering_62 : decode bM_entering 62 = .ok (.iadd, 1) := by decide +kernel
theorem dM_entering_63 : decode bM_entering 63 = .ok (.laload, 1) := by decide +kernel
theorem dM_entering_64 : decode bM_entering 64 = .ok (.lmul, 1) := by decide +kernel
theorem dM_entering_65 : decode bM_entering 65 = .ok (.lstore 6, 2) := by decide +kernel
theorem dM_entering_67 : decode bM_entering 67 = .ok (.iload_n 2, 1) := by decide +kernel
theorem dM_entering_68 : decode bM_entering 68 = .ok (.iconst (-1), 1) := by decide +kernel
theorem dM_entering_69 : decode bM_entering 69 = .ok (.if_icmp .ne 7, 3) := by decide +kernel
theorem dM_entering_72 : decode bM_entering 72 = .ok (.lconst 0, 1) := by decide +kernel
theorem dM_entering_73 : decode bM_entering 73 = .ok (.goto 16, 3) := by decide +kernel
theorem dM_entering_76 : decode bM_entering 76 = .ok (.aload_n 0, 1) := by decide +kernel
theorem dM_entering_77 : decode bM_entering 77 = .ok (.getfield 39, 3) := by decide +kernel
theorem dM_entering_80 : decode bM_entering 80 = .ok (.sipush 468, 3) := by decide +kernel
theorem dM_entering_83 : decode bM_entering 83 = .ok (.iload_n 2, 1) := by decide +kernel
theorem dM_entering_84 : decode bM_entering 84 = .ok (.iadd, 1) := by decide +kernel
theorem dM_entering_85 : decode bM_entering 85 = .ok (.laload, 1) := by decide +kernel
theorem dM_entering_86 : decode bM_entering 86 = .ok (.lload 4, 2) := by decide +kernel
theorem dM_entering_88 : decode bM_entering 88 = .ok (.lmul, 1) := by decide +kernel
theorem dM_entering_89 : decode bM_entering 89 = .ok (.lstore 8, 2) := by decide +kernel
theorem dM_entering_91 : decode bM_entering 91 = .ok (.lload 6, 2) := by decide +kernel
theorem dM_entering_93 : decode bM_entering 93 = .ok (.lload 8, 2) := by decide +kernel
theorem dM_entering_95 : decode bM_entering 95 = .ok (.lcmp, 1) := by decide +kernel
theorem dM_entering_96 : decode bM_entering 96 = .ok (.ifCond .lt 26, 3) := by decide +kernel
theorem dM_entering_99 : decode bM_entering 99 = .ok (.lload 6, 2) := by decide +kernel
theorem dM_entering_101 : decode bM_entering 101 = .ok (.lload 8, 2) := by decide +kernel
theorem dM_entering_103 : decode bM_entering 103 = .ok (.lcmp, 1) := by decide +kernel
theorem dM_entering_104 : decode bM_entering 104 = .ok (.ifCond .ne 22, 3) := by decide +kernel
theorem dM_entering_107 : decode bM_entering 107 = .ok (.aload_n 0, 1) := by decide +kernel
theorem dM_entering_108 : decode bM_entering 108 = .ok (.getfield 36, 3) := by decide +kernel
theorem dM_entering_111 : decode bM_entering 111 = .ok (.iload_n 3, 1) := by decide +kernel
theorem dM_entering_112 : decode bM_entering 112 = .ok (.iaload, 1) := by decide +kernel
theorem dM_entering_113 : decode bM_entering 113 = .ok (.aload_n 0, 1) := by decide +kernel
theorem dM_entering_114 : decode bM_entering 114 = .ok (.getfield 36, 3) := by decide +kernel
theorem dM_entering_117 : decode bM_entering 117 = .ok (.iload_n 2, 1) := by decide +kernel
theorem dM_entering_118 : decode bM_entering 118 = .ok (.iaload, 1) := by decide +kernel
theorem dM_entering_119 : decode bM_entering 119 = .ok (.if_icmp .ge 7, 3) := by decide +kernel
theorem dM_entering_122 : decode bM_entering 122 = .ok (.iload_n 3, 1) := by decide +kernel
theorem dM_entering_123 : decode bM_entering 123 = .ok (.goto 4, 3) := by decide +kernel
theorem dM_entering_126 : decode bM_entering 126 = .ok (.iload_n 2, 1) := by decide +kernel
theorem dM_entering_127 : decode bM_entering 127 = .ok (.istore_n 2, 1) := by decide +kernel
theorem dM_entering_128 : decode bM_entering 128 = .ok (.iinc 3 1, 3) := by decide +kernel
theorem dM_entering_131 : decode bM_entering 131 = .ok (.goto (-127), 3) := by decide +kernel
theorem dM_entering_134 : decode bM_entering 134 = .ok (.iload_n 2, 1) := by decide +kernel
theorem dM_entering_135 : decode bM_entering 135 = .ok (.ireturn, 1) := by decide +kernel
theorem dM_step_0 : decode bM_step 0 = .ok (.aload_n 0, 1) := by decide +kernel
theorem dM_step_1 : decode bM_step 1 = .ok (.getfield 39, 3) := by decide +kernel
theorem dM_step_4 : decode bM_step 4 = .ok (.bipush 13, 2) := by decide +kernel
theorem dM_step_6 : decode bM_step 6 = .ok (.iload_n 1, 1) := by decide +kernel
theorem dM_step_7 : decode bM_step 7 = .ok (.imul, 1) := by decide +kernel
theorem dM_step_8 : decode bM_step 8 = .ok (.iload_n 2, 1) := by decide +kernel
theorem dM_step_9 : decode bM_step 9 = .ok (.iadd, 1) := by decide +kernel
theorem dM_step_10 : decode bM_step 10 = .ok (.laload, 1) := by decide +kernel
theorem dM_step_11 : decode bM_step 11 = .ok (.lstore_n 3, 1) := by decide +kernel
theorem dM_step_12 : decode bM_step 12 = .ok (.aload_n 0, 1) := by decide +kernel
theorem dM_step_13 : decode bM_step 13 = .ok (.getfield 36, 3) := by decide +kernel
theorem dM_step_16 : decode bM_step 16 = .ok (.iload_n 2, 1) := by decide +kernel
theorem dM_step_17 : decode bM_step 17 = .ok (.iaload, 1) := by decide +kernel
theorem dM_step_18 : decode bM_step 18 = .ok (.istore 5, 2) := by decide +kernel
theorem dM_step_20 : decode bM_step 20 = .ok (.lload_n 3, 1) := by decide +kernel
theorem dM_step_21 : decode bM_step 21 = .ok (.invokestatic 98, 3) := by decide +kernel
theorem dM_step_24 : decode bM_step 24 = .ok (.ifCond .ne 7, 3) := by decide +kernel
theorem dM_step_27 : decode bM_step 27 = .ok (.iconst 1, 1) := by decide +kernel
theorem dM_step_28 : decode bM_step 28 = .ok (.goto 4, 3) := by decide +kernel
theorem dM_step_31 : decode bM_step 31 = .ok (.iconst 0, 1) := by decide +kernel
theorem dM_step_32 : decode bM_step 32 = .ok (.istore 6, 2) := by decide +kernel
theorem dM_step_34 : decode bM_step 34 = .ok (.iconst 0, 1) := by decide +kernel
theorem dM_step_35 : decode bM_step 35 = .ok (.istore 7, 2) := by decide +kernel
theorem dM_step_37 : decode bM_step 37 = .ok (.iload 7, 2) := by decide +kernel
theorem dM_step_39 : decode bM_step 39 = .ok (.bipush 36, 2) := by decide +kernel
theorem dM_step_41 : decode bM_step 41 = .ok (.if_icmp .gt 145, 3) := by decide +kernel
theorem dM_step_44 : decode bM_step 44 = .ok (.aload_n 0, 1) := by decide +kernel
theorem dM_step_45 : decode bM_step 45 = .ok (.iload 7, 2) := by decide +kernel
theorem dM_step_47 : decode bM_step 47 = .ok (.invokevirtual 90, 3) := by decide +kernel
theorem dM_step_50 : decode bM_step 50 = .ok (.ifCond .eq 130, 3) := by decide +kernel
theorem dM_step_53 : decode bM_step 53 = .ok (.iload 7, 2) := by decide +kernel
theorem dM_step_55 : decode bM_step 55 = .ok (.iload_n 1, 1) := by decide +kernel
theorem dM_step_56 : decode bM_step 56 = .ok (.if_icmp .eq 124, 3) := by decide +kernel
theorem dM_step_59 : decode bM_step 59 = .ok (.aload_n 0, 1) := by decide +kernel
theorem dM_step_60 : decode bM_step 60 = .ok (.getfield 39, 3) := by decide +kernel
theorem dM_step_63 : decode bM_step 63 = .ok (.bipush 13, 2) := by decide +kernel
theorem dM_step_65 : decode bM_step 65 = .ok (.iload 7, 2) := by decide +kernel
theorem dM_step_67 : decode bM_step 67 = .ok (.imul, 1) := by decide +kernel
theorem dM_step_68 : decode bM_step 68 = .ok (.iload_n 2, 1) := by decide +kernel
theorem dM_step_69 : decode bM_step 69 = .ok (.iadd, 1) := by decide +kernel
theorem dM_step_70 : decode bM_step 70 = .ok (.laload, 1) := by decide +kernel
theorem dM_step_71 : decode bM_step 71 = .ok (.lstore 8, 2) := by decide +kernel
theorem dM_step_73 : decode bM_step 73 = .ok (.iconst 0, 1) := by decide +kernel
theorem dM_step_74 : decode bM_step 74 = .ok (.istore 10, 2) := by decide +kernel
theorem dM_step_76 : decode bM_step 76 = .ok (.iload 10, 2) := by decide +kernel
theorem dM_step_78 : decode bM_step 78 = .ok (.bipush 12, 2) := by decide +kernel
theorem dM_step_80 : decode bM_step 80 = .ok (.if_icmp .gt 100, 3) := by decide +kernel
theorem dM_step_83 : decode bM_step 83 = .ok (.aload_n 0, 1) := by decide +kernel
theorem dM_step_84 : decode bM_step 84 = .ok (.getfield 42, 3) := by decide +kernel
theorem dM_step_87 : decode bM_step 87 = .ok (.bipush 13, 2) := by decide +kernel
theorem dM_step_89 : decode bM_step 89 = .ok (.iload 7, 2) := by decide +kernel
theorem dM_step_91 : decode bM_step 91 = .ok (.imul, 1) := by decide +kernel
theorem dM_step_92 : decode bM_step 92 = .ok (.iload 10, 2) := by decide +kernel
theorem dM_step_94 : decode bM_step 94 = .ok (.iadd, 1) := by decide +kernel
theorem dM_step_95 : decode bM_step 95 = .ok (.iload 10, 2) := by decide +kernel
theorem dM_step_97 : decode bM_step 97 = .ok (.iload_n 2, 1) := by decide +kernel
theorem dM_step_98 : decode bM_step 98 = .ok (.if_icmp .ne 8, 3) := by decide +kernel
theorem dM_step_101 : decode bM_step 101 = .ok (.lload 8, 2) := by decide +kernel
theorem dM_step_103 : decode bM_step 103 = .ok (.goto 39, 3) := by decide +kernel
theorem dM_step_106 : decode bM_step 106 = .ok (.aload_n 0, 1) := by decide +kernel
theorem dM_step_107 : decode bM_step 107 = .ok (.getfield 39, 3) := by decide +kernel
theorem dM_step_110 : decode bM_step 110 = .ok (.bipush 13, 2) := by decide +kernel
theorem dM_step_112 : decode bM_step 112 = .ok (.iload 7, 2) := by decide +kernel
theorem dM_step_114 : decode bM_step 114 = .ok (.imul, 1) := by decide +kernel
theorem dM_step_115 : decode bM_step 115 = .ok (.iload 10, 2) := by decide +kernel
theorem dM_step_117 : decode bM_step 117 = .ok (.iadd, 1) := by decide +kernel
theorem dM_step_118 : decode bM_step 118 = .ok (.laload, 1) := by decide +kernel
theorem dM_step_119 : decode bM_step 119 = .ok (.lload_n 3, 1) := by decide +kernel
theorem dM_step_120 : decode bM_step 120 = .ok (.lmul, 1) := by decide +kernel
theorem dM_step_121 : decode bM_step 121 = .ok (.lload 8, 2) := by decide +kernel
theorem dM_step_123 : decode bM_step 123 = .ok (.aload_n 0, 1) := by decide +kernel
theorem dM_step_124 : decode bM_step 124 = .ok (.getfield 39, 3) := by decide +kernel
theorem dM_step_127 : decode bM_step 127 = .ok (.bipush 13, 2) := by decide +kernel
theorem dM_step_129 : decode bM_step 129 = .ok (.iload_n 1, 1) := by decide +kernel
theorem dM_step_130 : decode bM_step 130 = .ok (.imul, 1) := by decide +kernel
theorem dM_step_131 : decode bM_step 131 = .ok (.iload 10, 2) := by decide +kernel
theorem dM_step_133 : decode bM_step 133 = .ok (.iadd, 1) := by decide +kernel
theorem dM_step_134 : decode bM_step 134 = .ok (.laload, 1) := by decide +kernel
theorem dM_step_135 : decode bM_step 135 = .ok (.lmul, 1) := by decide +kernel
theorem dM_step_136 : decode bM_step 136 = .ok (.lsub, 1) := by decide +kernel
theorem dM_step_137 : decode bM_step 137 = .ok (.aload_n 0, 1) := by decide +kernel
theorem dM_step_138 : decode bM_step 138 = .ok (.getfield 29, 3) := by decide +kernel
theorem dM_step_141 : decode bM_step 141 = .ok (.ldiv, 1) := by decide +kernel
theorem dM_step_142 : decode bM_step 142 = .ok (.lastore, 1) := by decide +kernel
theorem dM_step_143 : decode bM_step 143 = .ok (.iload 6, 2) := by decide +kernel
theorem dM_step_145 : decode bM_step 145 = .ok (.ifCond .eq 26, 3) := by decide +kernel
theorem dM_step_148 : decode bM_step 148 = .ok (.aload_n 0, 1) := by decide +kernel
theorem dM_step_149 : decode bM_step 149 = .ok (.getfield 42, 3) := by decide +kernel
theorem dM_step_152 : decode bM_step 152 = .ok (.bipush 13, 2) := by decide +kernel
theorem dM_step_154 : decode bM_step 154 = .ok (.iload 7, 2) := by decide +kernel
theorem dM_step_156 : decode bM_step 156 = .ok (.imul, 1) := by decide +kernel
theorem dM_step_157 : decode bM_step 157 = .ok (.iload 10, 2) := by decide +kernel
theorem dM_step_159 : decode bM_step 159 = .ok (.iadd, 1) := by decide +kernel
theorem dM_step_160 : decode bM_step 160 = .ok (.laload, 1) := by decide +kernel
theorem dM_step_161 : decode bM_step 161 = .ok (.invokestatic 98, 3) := by decide +kernel
theorem dM_step_164 : decode bM_step 164 = .ok (.ifCond .ne 7, 3) := by decide +kernel
theorem dM_step_167 : decode bM_step 167 = .ok (.iconst 1, 1) := by decide +kernel
theorem dM_step_168 : decode bM_step 168 = .ok (.goto 4, 3) := by decide +kernel
theorem dM_step_171 : decode bM_step 171 = .ok (.iconst 0, 1) := by decide +kernel
theorem dM_step_172 : decode bM_step 172 = .ok (.istore 6, 2) := by decide +kernel
theorem dM_step_174 : decode bM_step 174 = .ok (.iinc 10 1, 3) := by decide +kernel
theorem dM_step_177 : decode bM_step 177 = .ok (.goto (-101), 3) := by decide +kernel
theorem dM_step_180 : decode bM_step 180 = .ok (.iinc 7 1, 3) := by decide +kernel
theorem dM_step_183 : decode bM_step 183 = .ok (.goto (-146), 3) := by decide +kernel
theorem dM_step_186 : decode bM_step 186 = .ok (.iload 6, 2) := by decide +kernel
theorem dM_step_188 : decode bM_step 188 = .ok (.ifCond .ne 5, 3) := by decide +kernel
theorem dM_step_191 : decode bM_step 191 = .ok (.iconst 0, 1) := by decide +kernel
theorem dM_step_192 : decode bM_step 192 = .ok (.ireturn, 1) := by decide +kernel
theorem dM_step_193 : decode bM_step 193 = .ok (.iconst 0, 1) := by decide +kernel
theorem dM_step_194 : decode bM_step 194 = .ok (.istore 7, 2) := by decide +kernel
theorem dM_step_196 : decode bM_step 196 = .ok (.iload 7, 2) := by decide +kernel
theorem dM_step_198 : decode bM_step 198 = .ok (.bipush 36, 2) := by decide +kernel
theorem dM_step_200 : decode bM_step 200 = .ok (.if_icmp .gt 66, 3) := by decide +kernel
theorem dM_step_203 : decode bM_step 203 = .ok (.iconst 0, 1) := by decide +kernel
theorem dM_step_204 : decode bM_step 204 = .ok (.istore 8, 2) := by decide +kernel
theorem dM_step_206 : decode bM_step 206 = .ok (.aload_n 0, 1) := by decide +kernel
theorem dM_step_207 : decode bM_step 207 = .ok (.iload 7, 2) := by decide +kernel
theorem dM_step_209 : decode bM_step 209 = .ok (.invokevirtual 90, 3) := by decide +kernel
theorem dM_step_212 : decode bM_step 212 = .ok (.ifCond .eq 48, 3) := by decide +kernel
theorem dM_step_215 : decode bM_step 215 = .ok (.iload 7, 2) := by decide +kernel
theorem dM_step_217 : decode bM_step 217 = .ok (.iload_n 1, 1) := by decide +kernel
theorem dM_step_218 : decode bM_step 218 = .ok (.if_icmp .eq 42, 3) := by decide +kernel
theorem dM_step_221 : decode bM_step 221 = .ok (.iload 8, 2) := by decide +kernel
theorem dM_step_223 : decode bM_step 223 = .ok (.bipush 12, 2) := by decide +kernel
theorem dM_step_225 : decode bM_step 225 = .ok (.if_icmp .gt 35, 3) := by decide +kernel
theorem dM_step_228 : decode bM_step 228 = .ok (.aload_n 0, 1) := by decide +kernel
theorem dM_step_229 : decode bM_step 229 = .ok (.getfield 39, 3) := by decide +kernel
theorem dM_step_232 : decode bM_step 232 = .ok (.bipush 13, 2) := by decide +kernel
theorem dM_step_234 : decode bM_step 234 = .ok (.iload 7, 2) := by decide +kernel
theorem dM_step_236 : decode bM_step 236 = .ok (.imul, 1) := by decide +kernel
theorem dM_step_237 : decode bM_step 237 = .ok (.iload 8, 2) := by decide +kernel
theorem dM_step_239 : decode bM_step 239 = .ok (.iadd, 1) := by decide +kernel
theorem dM_step_240 : decode bM_step 240 = .ok (.aload_n 0, 1) := by decide +kernel
theorem dM_step_241 : decode bM_step 241 = .ok (.getfield 42, 3) := by decide +kernel
theorem dM_step_244 : decode bM_step 244 = .ok (.bipush 13, 2) := by decide +kernel
theorem dM_step_246 : decode bM_step 246 = .ok (.iload 7, 2) := by decide +kernel
theorem dM_step_248 : decode bM_step 248 = .ok (.imul, 1) := by decide +kernel
theorem dM_step_249 : decode bM_step 249 = .ok (.iload 8, 2) := by decide +kernel
theorem dM_step_251 : decode bM_step 251 = .ok (.iadd, 1) := by decide +kernel
theorem dM_step_252 : decode bM_step 252 = .ok (.laload, 1) := by decide +kernel
theorem dM_step_253 : decode bM_step 253 = .ok (.lastore, 1) := by decide +kernel
theorem dM_step_254 : decode bM_step 254 = .ok (.iinc 8 1, 3) := by decide +kernel
theorem dM_step_257 : decode bM_step 257 = .ok (.goto (-51), 3) := by decide +kernel
theorem dM_step_260 : decode bM_step 260 = .ok (.iinc 7 1, 3) := by decide +kernel
theorem dM_step_263 : decode bM_step 263 = .ok (.goto (-67), 3) := by decide +kernel
theorem dM_step_266 : decode bM_step 266 = .ok (.iconst 0, 1) := by decide +kernel
theorem dM_step_267 : decode bM_step 267 = .ok (.istore 7, 2) := by decide +kernel
theorem dM_step_269 : decode bM_step 269 = .ok (.iload 7, 2) := by decide +kernel
theorem dM_step_271 : decode bM_step 271 = .ok (.bipush 12, 2) := by decide +kernel
theorem dM_step_273 : decode bM_step 273 = .ok (.if_icmp .gt 48, 3) := by decide +kernel
theorem dM_step_276 : decode bM_step 276 = .ok (.aload_n 0, 1) := by decide +kernel
theorem dM_step_277 : decode bM_step 277 = .ok (.getfield 39, 3) := by decide +kernel
theorem dM_step_280 : decode bM_step 280 = .ok (.bipush 13, 2) := by decide +kernel
theorem dM_step_282 : decode bM_step 282 = .ok (.iload 5, 2) := by decide +kernel
theorem dM_step_284 : decode bM_step 284 = .ok (.imul, 1) := by decide +kernel
theorem dM_step_285 : decode bM_step 285 = .ok (.iload 7, 2) := by decide +kernel
theorem dM_step_287 : decode bM_step 287 = .ok (.iadd, 1) := by decide +kernel
theorem dM_step_288 : decode bM_step 288 = .ok (.iload 7, 2) := by decide +kernel
theorem dM_step_290 : decode bM_step 290 = .ok (.iload_n 2, 1) := by decide +kernel
theorem dM_step_291 : decode bM_step 291 = .ok (.if_icmp .ne 10, 3) := by decide +kernel
theorem dM_step_294 : decode bM_step 294 = .ok (.aload_n 0, 1) := by decide +kernel
theorem dM_step_295 : decode bM_step 295 = .ok (.getfield 29, 3) := by decide +kernel
theorem dM_step_298 : decode bM_step 298 = .ok (.goto 16, 3) := by decide +kernel
theorem dM_step_301 : decode bM_step 301 = .ok (.aload_n 0, 1) := by decide +kernel
theorem dM_step_302 : decode bM_step 302 = .ok (.getfield 39, 3) := by decide +kernel
theorem dM_step_305 : decode bM_step 305 = .ok (.bipush 13, 2) := by decide +kernel
theorem dM_step_307 : decode bM_step 307 = .ok (.iload_n 1, 1) := by decide +kernel
theorem dM_step_308 : decode bM_step 308 = .ok (.imul, 1) := by decide +kernel
theorem dM_step_309 : decode bM_step 309 = .ok (.iload 7, 2) := by decide +kernel
theorem dM_step_311 : decode bM_step 311 = .ok (.iadd, 1) := by decide +kernel
theorem dM_step_312 : decode bM_step 312 = .ok (.laload, 1) := by decide +kernel
theorem dM_step_313 : decode bM_step 313 = .ok (.lneg, 1) := by decide +kernel
theorem dM_step_314 : decode bM_step 314 = .ok (.lastore, 1) := by decide +kernel
theorem dM_step_315 : decode bM_step 315 = .ok (.iinc 7 1, 3) := by decide +kernel
theorem dM_step_318 : decode bM_step 318 = .ok (.goto (-49), 3) := by decide +kernel
theorem dM_step_321 : decode bM_step 321 = .ok (.aload_n 0, 1) := by decide +kernel
theorem dM_step_322 : decode bM_step 322 = .ok (.getfield 33, 3) := by decide +kernel
theorem dM_step_325 : decode bM_step 325 = .ok (.iload 5, 2) := by decide +kernel
theorem dM_step_327 : decode bM_step 327 = .ok (.iconst (-1), 1) := by decide +kernel
theorem dM_step_328 : decode bM_step 328 = .ok (.iastore, 1) := by decide +kernel
theorem dM_step_329 : decode bM_step 329 = .ok (.aload_n 0, 1) := by decide +kernel
theorem dM_step_330 : decode bM_step 330 = .ok (.getfield 33, 3) := by decide +kernel
theorem dM_step_333 : decode bM_step 333 = .ok (.iload_n 1, 1) := by decide +kernel
theorem dM_step_334 : decode bM_step 334 = .ok (.iload_n 2, 1) := by decide +kernel
theorem dM_step_335 : decode bM_step 335 = .ok (.iastore, 1) := by decide +kernel
theorem dM_step_336 : decode bM_step 336 = .ok (.aload_n 0, 1) := by decide +kernel
theorem dM_step_337 : decode bM_step 337 = .ok (.getfield 36, 3) := by decide +kernel
theorem dM_step_340 : decode bM_step 340 = .ok (.iload_n 2, 1) := by decide +kernel
theorem dM_step_341 : decode bM_step 341 = .ok (.iload_n 1, 1) := by decide +kernel
theorem dM_step_342 : decode bM_step 342 = .ok (.iastore, 1) := by decide +kernel
theorem dM_step_343 : decode bM_step 343 = .ok (.aload_n 0, 1) := by decide +kernel
theorem dM_step_344 : decode bM_step 344 = .ok (.lload_n 3, 1) := by decide +kernel
theorem dM_step_345 : decode bM_step 345 = .ok (.putfield 29, 3) := by decide +kernel
theorem dM_step_348 : decode bM_step 348 = .ok (.aload_n 0, 1) := by decide +kernel
theorem dM_step_349 : decode bM_step 349 = .ok (.dup, 1) := by decide +kernel
theorem dM_step_350 : decode bM_step 350 = .ok (.getfield 108, 3) := by decide +kernel
theorem dM_step_353 : decode bM_step 353 = .ok (.iconst 1, 1) := by decide +kernel
theorem dM_step_354 : decode bM_step 354 = .ok (.iadd, 1) := by decide +kernel
theorem dM_step_355 : decode bM_step 355 = .ok (.putfield 108, 3) := by decide +kernel
theorem dM_step_358 : decode bM_step 358 = .ok (.iconst 1, 1) := by decide +kernel
theorem dM_step_359 : decode bM_step 359 = .ok (.ireturn, 1) := by decide +kernel
theorem dM_run_0 : decode bM_run 0 = .ok (.aload_n 0, 1) := by decide +kernel
theorem dM_run_1 : decode bM_run 1 = .ok (.iload_n 1, 1) := by decide +kernel
theorem dM_run_2 : decode bM_run 2 = .ok (.i2l, 1) := by decide +kernel
theorem dM_run_3 : decode bM_run 3 = .ok (.lconst 0, 1) := by decide +kernel
theorem dM_run_4 : decode bM_run 4 = .ok (.ldc2_w 66, 3) := by decide +kernel
theorem dM_run_7 : decode bM_run 7 = .ok (.invokestatic 68, 3) := by decide +kernel
theorem dM_run_10 : decode bM_run 10 = .ok (.ifCond .eq 7, 3) := by decide +kernel
theorem dM_run_13 : decode bM_run 13 = .ok (.iconst 0, 1) := by decide +kernel
theorem dM_run_14 : decode bM_run 14 = .ok (.goto 4, 3) := by decide +kernel
theorem dM_run_17 : decode bM_run 17 = .ok (.iconst 1, 1) := by decide +kernel
theorem dM_run_18 : decode bM_run 18 = .ok (.putfield 52, 3) := by decide +kernel
theorem dM_run_21 : decode bM_run 21 = .ok (.aload_n 0, 1) := by decide +kernel
theorem dM_run_22 : decode bM_run 22 = .ok (.getfield 52, 3) := by decide +kernel
theorem dM_run_25 : decode bM_run 25 = .ok (.ifCond .le 5, 3) := by decide +kernel
theorem dM_run_28 : decode bM_run 28 = .ok (.iconst 0, 1) := by decide +kernel
theorem dM_run_29 : decode bM_run 29 = .ok (.ireturn, 1) := by decide +kernel
theorem dM_run_30 : decode bM_run 30 = .ok (.aload_n 0, 1) := by decide +kernel
theorem dM_run_31 : decode bM_run 31 = .ok (.iconst 1, 1) := by decide +kernel
theorem dM_run_32 : decode bM_run 32 = .ok (.putfield 62, 3) := by decide +kernel
theorem dM_run_35 : decode bM_run 35 = .ok (.aload_n 0, 1) := by decide +kernel
theorem dM_run_36 : decode bM_run 36 = .ok (.iconst (-1), 1) := by decide +kernel
theorem dM_run_37 : decode bM_run 37 = .ok (.putfield 45, 3) := by decide +kernel
theorem dM_run_40 : decode bM_run 40 = .ok (.iconst 0, 1) := by decide +kernel
theorem dM_run_41 : decode bM_run 41 = .ok (.istore_n 2, 1) := by decide +kernel
theorem dM_run_42 : decode bM_run 42 = .ok (.iload_n 2, 1) := by decide +kernel
theorem dM_run_43 : decode bM_run 43 = .ok (.aload_n 0, 1) := by decide +kernel
theorem dM_run_44 : decode bM_run 44 = .ok (.getfield 72, 3) := by decide +kernel
theorem dM_run_47 : decode bM_run 47 = .ok (.if_icmp .ge 29, 3) := by decide +kernel
theorem dM_run_50 : decode bM_run 50 = .ok (.aload_n 0, 1) := by decide +kernel
theorem dM_run_51 : decode bM_run 51 = .ok (.getfield 26, 3) := by decide +kernel
theorem dM_run_54 : decode bM_run 54 = .ok (.iload_n 2, 1) := by decide +kernel
theorem dM_run_55 : decode bM_run 55 = .ok (.iaload, 1) := by decide +kernel
theorem dM_run_56 : decode bM_run 56 = .ok (.iconst (-1), 1) := by decide +kernel
theorem dM_run_57 : decode bM_run 57 = .ok (.if_icmp .ne 13, 3) := by decide +kernel
theorem dM_run_60 : decode bM_run 60 = .ok (.aload_n 0, 1) := by decide +kernel
theorem dM_run_61 : decode bM_run 61 = .ok (.iload_n 2, 1) := by decide +kernel
theorem dM_run_62 : decode bM_run 62 = .ok (.invokevirtual 111, 3) := by decide +kernel
theorem dM_run_65 : decode bM_run 65 = .ok (.ifCond .ne 5, 3) := by decide +kernel
theorem dM_run_68 : decode bM_run 68 = .ok (.iconst 3, 1) := by decide +kernel
theorem dM_run_69 : decode bM_run 69 = .ok (.ireturn, 1) := by decide +kernel
theorem dM_run_70 : decode bM_run 70 = .ok (.iinc 2 1, 3) := by decide +kernel
theorem dM_run_73 : decode bM_run 73 = .ok (.goto (-31), 3) := by decide +kernel
theorem dM_run_76 : decode bM_run 76 = .ok (.iload_n 1, 1) := by decide +kernel
theorem dM_run_77 : decode bM_run 77 = .ok (.istore_n 2, 1) := by decide +kernel
theorem dM_run_78 : decode bM_run 78 = .ok (.aload_n 0, 1) := by decide +kernel
theorem dM_run_79 : decode bM_run 79 = .ok (.invokevirtual 114, 3) := by decide +kernel
theorem dM_run_82 : decode bM_run 82 = .ok (.istore_n 3, 1) := by decide +kernel
theorem dM_run_83 : decode bM_run 83 = .ok (.iload_n 3, 1) := by decide +kernel
theorem dM_run_84 : decode bM_run 84 = .ok (.iconst (-1), 1) := by decide +kernel
theorem dM_run_85 : decode bM_run 85 = .ok (.if_icmp .ne 5, 3) := by decide +kernel
theorem dM_run_88 : decode bM_run 88 = .ok (.iconst 0, 1) := by decide +kernel
theorem dM_run_89 : decode bM_run 89 = .ok (.ireturn, 1) := by decide +kernel
theorem dM_run_90 : decode bM_run 90 = .ok (.aload_n 0, 1) := by decide +kernel
theorem dM_run_91 : decode bM_run 91 = .ok (.iload_n 3, 1) := by decide +kernel
theorem dM_run_92 : decode bM_run 92 = .ok (.invokevirtual 118, 3) := by decide +kernel
theorem dM_run_95 : decode bM_run 95 = .ok (.istore 4, 2) := by decide +kernel
theorem dM_run_97 : decode bM_run 97 = .ok (.iload 4, 2) := by decide +kernel
theorem dM_run_99 : decode bM_run 99 = .ok (.iconst (-1), 1) := by decide +kernel
theorem dM_run_100 : decode bM_run 100 = .ok (.if_icmp .ne 10, 3) := by decide +kernel
theorem dM_run_103 : decode bM_run 103 = .ok (.aload_n 0, 1) := by decide +kernel
theorem dM_run_104 : decode bM_run 104 = .ok (.iload_n 3, 1) := by decide +kernel
theorem dM_run_105 : decode bM_run 105 = .ok (.putfield 45, 3) := by decide +kernel
theorem dM_run_108 : decode bM_run 108 = .ok (.iconst 1, 1) := by decide +kernel
theorem dM_run_109 : decode bM_run 109 = .ok (.ireturn, 1) := by decide +kernel
theorem dM_run_110 : decode bM_run 110 = .ok (.iload_n 2, 1) := by decide +kernel
theorem dM_run_111 : decode bM_run 111 = .ok (.ifCond .ne 5, 3) := by decide +kernel
theorem dM_run_114 : decode bM_run 114 = .ok (.iconst 2, 1) := by decide +kernel
theorem dM_run_115 : decode bM_run 115 = .ok (.ireturn, 1) := by decide +kernel
theorem dM_run_116 : decode bM_run 116 = .ok (.aload_n 0, 1) := by decide +kernel
theorem dM_run_117 : decode bM_run 117 = .ok (.iload_n 3, 1) := by decide +kernel
theorem dM_run_118 : decode bM_run 118 = .ok (.iload 4, 2) := by decide +kernel
theorem dM_run_120 : decode bM_run 120 = .ok (.invokevirtual 122, 3) := by decide +kernel
theorem dM_run_123 : decode bM_run 123 = .ok (.ifCond .ne 5, 3) := by decide +kernel
theorem dM_run_126 : decode bM_run 126 = .ok (.iconst 3, 1) := by decide +kernel
theorem dM_run_127 : decode bM_run 127 = .ok (.ireturn, 1) := by decide +kernel
theorem dM_run_128 : decode bM_run 128 = .ok (.iinc 2 (-1), 3) := by decide +kernel
theorem dM_run_131 : decode bM_run 131 = .ok (.goto (-53), 3) := by decide +kernel
theorem dM_size_0 : decode bM_size 0 = .ok (.lload_n 0, 1) := by decide +kernel
theorem dM_size_1 : decode bM_size 1 = .ok (.lconst 0, 1) := by decide +kernel
theorem dM_size_2 : decode bM_size 2 = .ok (.lcmp, 1) := by decide +kernel
theorem dM_size_3 : decode bM_size 3 = .ok (.ifCond .ge 8, 3) := by decide +kernel
theorem dM_size_6 : decode bM_size 6 = .ok (.lload_n 0, 1) := by decide +kernel
theorem dM_size_7 : decode bM_size 7 = .ok (.lneg, 1) := by decide +kernel
theorem dM_size_8 : decode bM_size 8 = .ok (.goto 4, 3) := by decide +kernel
theorem dM_size_11 : decode bM_size 11 = .ok (.lload_n 0, 1) := by decide +kernel
theorem dM_size_12 : decode bM_size 12 = .ok (.lreturn, 1) := by decide +kernel
theorem dM_fraction_0 : decode bM_fraction 0 = .ok (.lload_n 1, 1) := by decide +kernel
theorem dM_fraction_1 : decode bM_fraction 1 = .ok (.invokestatic 126, 3) := by decide +kernel
theorem dM_fraction_4 : decode bM_fraction 4 = .ok (.lstore 4, 2) := by decide +kernel
theorem dM_fraction_6 : decode bM_fraction 6 = .ok (.aload_n 0, 1) := by decide +kernel
theorem dM_fraction_7 : decode bM_fraction 7 = .ok (.getfield 29, 3) := by decide +kernel
theorem dM_fraction_10 : decode bM_fraction 10 = .ok (.lstore 6, 2) := by decide +kernel
theorem dM_fraction_12 : decode bM_fraction 12 = .ok (.lload 6, 2) := by decide +kernel
theorem dM_fraction_14 : decode bM_fraction 14 = .ok (.lconst 0, 1) := by decide +kernel
theorem dM_fraction_15 : decode bM_fraction 15 = .ok (.lcmp, 1) := by decide +kernel
theorem dM_fraction_16 : decode bM_fraction 16 = .ok (.ifCond .eq 21, 3) := by decide +kernel
theorem dM_fraction_19 : decode bM_fraction 19 = .ok (.lload 4, 2) := by decide +kernel
theorem dM_fraction_21 : decode bM_fraction 21 = .ok (.lload 6, 2) := by decide +kernel
theorem dM_fraction_23 : decode bM_fraction 23 = .ok (.lrem, 1) := by decide +kernel
theorem dM_fraction_24 : decode bM_fraction 24 = .ok (.lstore 8, 2) := by decide +kernel
theorem dM_fraction_26 : decode bM_fraction 26 = .ok (.lload 6, 2) := by decide +kernel
theorem dM_fraction_28 : decode bM_fraction 28 = .ok (.lstore 4, 2) := by decide +kernel
theorem dM_fraction_30 : decode bM_fraction 30 = .ok (.lload 8, 2) := by decide +kernel
theorem dM_fraction_32 : decode bM_fraction 32 = .ok (.lstore 6, 2) := by decide +kernel
theorem dM_fraction_34 : decode bM_fraction 34 = .ok (.goto (-22), 3) := by decide +kernel
theorem dM_fraction_37 : decode bM_fraction 37 = .ok (.iload_n 3, 1) := by decide +kernel
theorem dM_fraction_38 : decode bM_fraction 38 = .ok (.ifCond .ne 10, 3) := by decide +kernel
theorem dM_fraction_41 : decode bM_fraction 41 = .ok (.lload_n 1, 1) := by decide +kernel
theorem dM_fraction_42 : decode bM_fraction 42 = .ok (.lload 4, 2) := by decide +kernel
theorem dM_fraction_44 : decode bM_fraction 44 = .ok (.ldiv, 1) := by decide +kernel
theorem dM_fraction_45 : decode bM_fraction 45 = .ok (.goto 10, 3) := by decide +kernel
theorem dM_fraction_48 : decode bM_fraction 48 = .ok (.aload_n 0, 1) := by decide +kernel
theorem dM_fraction_49 : decode bM_fraction 49 = .ok (.getfield 29, 3) := by decide +kernel
theorem dM_fraction_52 : decode bM_fraction 52 = .ok (.lload 4, 2) := by decide +kernel
theorem dM_fraction_54 : decode bM_fraction 54 = .ok (.ldiv, 1) := by decide +kernel
theorem dM_fraction_55 : decode bM_fraction 55 = .ok (.lreturn, 1) := by decide +kernel
theorem dM_isPart_0 : decode bM_isPart 0 = .ok (.iload_n 1, 1) := by decide +kernel
theorem dM_isPart_1 : decode bM_isPart 1 = .ok (.ifCond .eq 8, 3) := by decide +kernel
theorem dM_isPart_4 : decode bM_isPart 4 = .ok (.iload_n 1, 1) := by decide +kernel
theorem dM_isPart_5 : decode bM_isPart 5 = .ok (.iconst 1, 1) := by decide +kernel
theorem dM_isPart_6 : decode bM_isPart 6 = .ok (.if_icmp .ne 7, 3) := by decide +kernel
theorem dM_isPart_9 : decode bM_isPart 9 = .ok (.iconst 1, 1) := by decide +kernel
theorem dM_isPart_10 : decode bM_isPart 10 = .ok (.goto 4, 3) := by decide +kernel
theorem dM_isPart_13 : decode bM_isPart 13 = .ok (.iconst 0, 1) := by decide +kernel
theorem dM_isPart_14 : decode bM_isPart 14 = .ok (.ireturn, 1) := by decide +kernel
theorem dM_value_0 : decode bM_value 0 = .ok (.aload_n 0, 1) := by decide +kernel
theorem dM_value_1 : decode bM_value 1 = .ok (.aload_n 0, 1) := by decide +kernel
theorem dM_value_2 : decode bM_value 2 = .ok (.iload_n 1, 1) := by decide +kernel
theorem dM_value_3 : decode bM_value 3 = .ok (.invokevirtual 130, 3) := by decide +kernel
theorem dM_value_6 : decode bM_value 6 = .ok (.ifCond .eq 7, 3) := by decide +kernel
theorem dM_value_9 : decode bM_value 9 = .ok (.iconst 0, 1) := by decide +kernel
theorem dM_value_10 : decode bM_value 10 = .ok (.goto 4, 3) := by decide +kernel
theorem dM_value_13 : decode bM_value 13 = .ok (.iconst 1, 1) := by decide +kernel
theorem dM_value_14 : decode bM_value 14 = .ok (.putfield 52, 3) := by decide +kernel
theorem dM_value_17 : decode bM_value 17 = .ok (.aload_n 0, 1) := by decide +kernel
theorem dM_value_18 : decode bM_value 18 = .ok (.getfield 52, 3) := by decide +kernel
theorem dM_value_21 : decode bM_value 21 = .ok (.ifCond .le 7, 3) := by decide +kernel
theorem dM_value_24 : decode bM_value 24 = .ok (.lconst 0, 1) := by decide +kernel
theorem dM_value_25 : decode bM_value 25 = .ok (.goto 16, 3) := by decide +kernel
theorem dM_value_28 : decode bM_value 28 = .ok (.aload_n 0, 1) := by decide +kernel
theorem dM_value_29 : decode bM_value 29 = .ok (.aload_n 0, 1) := by decide +kernel
theorem dM_value_30 : decode bM_value 30 = .ok (.getfield 39, 3) := by decide +kernel
theorem dM_value_33 : decode bM_value 33 = .ok (.sipush 480, 3) := by decide +kernel
theorem dM_value_36 : decode bM_value 36 = .ok (.laload, 1) := by decide +kernel
theorem dM_value_37 : decode bM_value 37 = .ok (.iload_n 1, 1) := by decide +kernel
theorem dM_value_38 : decode bM_value 38 = .ok (.invokevirtual 133, 3) := by decide +kernel
theorem dM_value_41 : decode bM_value 41 = .ok (.lreturn, 1) := by decide +kernel
theorem dM_amount_0 : decode bM_amount 0 = .ok (.aload_n 0, 1) := by decide +kernel
theorem dM_amount_1 : decode bM_amount 1 = .ok (.getfield 33, 3) := by decide +kernel
theorem dM_amount_4 : decode bM_amount 4 = .ok (.iload_n 1, 1) := by decide +kernel
theorem dM_amount_5 : decode bM_amount 5 = .ok (.iaload, 1) := by decide +kernel
theorem dM_amount_6 : decode bM_amount 6 = .ok (.iconst (-1), 1) := by decide +kernel
theorem dM_amount_7 : decode bM_amount 7 = .ok (.if_icmp .ne 18, 3) := by decide +kernel
theorem dM_amount_10 : decode bM_amount 10 = .ok (.aload_n 0, 1) := by decide +kernel
theorem dM_amount_11 : decode bM_amount 11 = .ok (.getfield 39, 3) := by decide +kernel
theorem dM_amount_14 : decode bM_amount 14 = .ok (.bipush 13, 2) := by decide +kernel
theorem dM_amount_16 : decode bM_amount 16 = .ok (.iload_n 1, 1) := by decide +kernel
theorem dM_amount_17 : decode bM_amount 17 = .ok (.imul, 1) := by decide +kernel
theorem dM_amount_18 : decode bM_amount 18 = .ok (.bipush 12, 2) := by decide +kernel
theorem dM_amount_20 : decode bM_amount 20 = .ok (.iadd, 1) := by decide +kernel
theorem dM_amount_21 : decode bM_amount 21 = .ok (.laload, 1) := by decide +kernel
theorem dM_amount_22 : decode bM_amount 22 = .ok (.goto 4, 3) := by decide +kernel
theorem dM_amount_25 : decode bM_amount 25 = .ok (.lconst 0, 1) := by decide +kernel
theorem dM_amount_26 : decode bM_amount 26 = .ok (.lreturn, 1) := by decide +kernel
theorem dM_share_0 : decode bM_share 0 = .ok (.aload_n 0, 1) := by decide +kernel
theorem dM_share_1 : decode bM_share 1 = .ok (.iload_n 1, 1) := by decide +kernel
theorem dM_share_2 : decode bM_share 2 = .ok (.i2l, 1) := by decide +kernel
theorem dM_share_3 : decode bM_share 3 = .ok (.lconst 0, 1) := by decide +kernel
theorem dM_share_4 : decode bM_share 4 = .ok (.aload_n 0, 1) := by decide +kernel
theorem dM_share_5 : decode bM_share 5 = .ok (.getfield 59, 3) := by decide +kernel
theorem dM_share_8 : decode bM_share 8 = .ok (.iconst 1, 1) := by decide +kernel
theorem dM_share_9 : decode bM_share 9 = .ok (.isub, 1) := by decide +kernel
theorem dM_share_10 : decode bM_share 10 = .ok (.i2l, 1) := by decide +kernel
theorem dM_share_11 : decode bM_share 11 = .ok (.invokestatic 68, 3) := by decide +kernel
theorem dM_share_14 : decode bM_share 14 = .ok (.ifCond .ne 7, 3) := by decide +kernel
theorem dM_share_17 : decode bM_share 17 = .ok (.iconst 1, 1) := by decide +kernel
theorem dM_share_18 : decode bM_share 18 = .ok (.goto 16, 3) := by decide +kernel
theorem dM_share_21 : decode bM_share 21 = .ok (.aload_n 0, 1) := by decide +kernel
theorem dM_share_22 : decode bM_share 22 = .ok (.iload_n 2, 1) := by decide +kernel
theorem dM_share_23 : decode bM_share 23 = .ok (.invokevirtual 130, 3) := by decide +kernel
theorem dM_share_26 : decode bM_share 26 = .ok (.ifCond .ne 7, 3) := by decide +kernel
theorem dM_share_29 : decode bM_share 29 = .ok (.iconst 2, 1) := by decide +kernel
theorem dM_share_30 : decode bM_share 30 = .ok (.goto 4, 3) := by decide +kernel
theorem dM_share_33 : decode bM_share 33 = .ok (.iconst 0, 1) := by decide +kernel
theorem dM_share_34 : decode bM_share 34 = .ok (.putfield 52, 3) := by decide +kernel
theorem dM_share_37 : decode bM_share 37 = .ok (.aload_n 0, 1) := by decide +kernel
theorem dM_share_38 : decode bM_share 38 = .ok (.getfield 52, 3) := by decide +kernel
theorem dM_share_41 : decode bM_share 41 = .ok (.ifCond .le 7, 3) := by decide +kernel
theorem dM_share_44 : decode bM_share 44 = .ok (.lconst 0, 1) := by decide +kernel
theorem dM_share_45 : decode bM_share 45 = .ok (.goto 13, 3) := by decide +kernel
theorem dM_share_48 : decode bM_share 48 = .ok (.aload_n 0, 1) := by decide +kernel
theorem dM_share_49 : decode bM_share 49 = .ok (.aload_n 0, 1) := by decide +kernel
theorem dM_share_50 : decode bM_share 50 = .ok (.iload_n 1, 1) := by decide +kernel
theorem dM_share_51 : decode bM_share 51 = .ok (.invokevirtual 137, 3) := by decide +kernel
theorem dM_share_54 : decode bM_share 54 = .ok (.iload_n 2, 1) := by decide +kernel
theorem dM_share_55 : decode bM_share 55 = .ok (.invokevirtual 133, 3) := by decide +kernel
theorem dM_share_58 : decode bM_share 58 = .ok (.lreturn, 1) := by decide +kernel
theorem dM_price_0 : decode bM_price 0 = .ok (.aload_n 0, 1) := by decide +kernel
theorem dM_price_1 : decode bM_price 1 = .ok (.getfield 33, 3) := by decide +kernel
theorem dM_price_4 : decode bM_price 4 = .ok (.iload_n 1, 1) := by decide +kernel
theorem dM_price_5 : decode bM_price 5 = .ok (.iaload, 1) := by decide +kernel
theorem dM_price_6 : decode bM_price 6 = .ok (.iconst (-1), 1) := by decide +kernel
theorem dM_price_7 : decode bM_price 7 = .ok (.if_icmp .ne 7, 3) := by decide +kernel
theorem dM_price_10 : decode bM_price 10 = .ok (.lconst 0, 1) := by decide +kernel
theorem dM_price_11 : decode bM_price 11 = .ok (.goto 18, 3) := by decide +kernel
theorem dM_price_14 : decode bM_price 14 = .ok (.aload_n 0, 1) := by decide +kernel
theorem dM_price_15 : decode bM_price 15 = .ok (.getfield 39, 3) := by decide +kernel
theorem dM_price_18 : decode bM_price 18 = .ok (.sipush 468, 3) := by decide +kernel
theorem dM_price_21 : decode bM_price 21 = .ok (.aload_n 0, 1) := by decide +kernel
theorem dM_price_22 : decode bM_price 22 = .ok (.getfield 33, 3) := by decide +kernel
theorem dM_price_25 : decode bM_price 25 = .ok (.iload_n 1, 1) := by decide +kernel
theorem dM_price_26 : decode bM_price 26 = .ok (.iaload, 1) := by decide +kernel
theorem dM_price_27 : decode bM_price 27 = .ok (.iadd, 1) := by decide +kernel
theorem dM_price_28 : decode bM_price 28 = .ok (.laload, 1) := by decide +kernel
theorem dM_price_29 : decode bM_price 29 = .ok (.lreturn, 1) := by decide +kernel
theorem dM_dual_0 : decode bM_dual 0 = .ok (.aload_n 0, 1) := by decide +kernel
theorem dM_dual_1 : decode bM_dual 1 = .ok (.iload_n 1, 1) := by decide +kernel
theorem dM_dual_2 : decode bM_dual 2 = .ok (.i2l, 1) := by decide +kernel
theorem dM_dual_3 : decode bM_dual 3 = .ok (.lconst 0, 1) := by decide +kernel
theorem dM_dual_4 : decode bM_dual 4 = .ok (.aload_n 0, 1) := by decide +kernel
theorem dM_dual_5 : decode bM_dual 5 = .ok (.getfield 72, 3) := by decide +kernel
theorem dM_dual_8 : decode bM_dual 8 = .ok (.iconst 1, 1) := by decide +kernel
theorem dM_dual_9 : decode bM_dual 9 = .ok (.isub, 1) := by decide +kernel
theorem dM_dual_10 : decode bM_dual 10 = .ok (.i2l, 1) := by decide +kernel
theorem dM_dual_11 : decode bM_dual 11 = .ok (.invokestatic 68, 3) := by decide +kernel
theorem dM_dual_14 : decode bM_dual 14 = .ok (.ifCond .ne 7, 3) := by decide +kernel
theorem dM_dual_17 : decode bM_dual 17 = .ok (.iconst 1, 1) := by decide +kernel
theorem dM_dual_18 : decode bM_dual 18 = .ok (.goto 16, 3) := by decide +kernel
theorem dM_dual_21 : decode bM_dual 21 = .ok (.aload_n 0, 1) := by decide +kernel
theorem dM_dual_22 : decode bM_dual 22 = .ok (.iload_n 2, 1) := by decide +kernel
theorem dM_dual_23 : decode bM_dual 23 = .ok (.invokevirtual 130, 3) := by decide +kernel
theorem dM_dual_26 : decode bM_dual 26 = .ok (.ifCond .ne 7, 3) := by decide +kernel
theorem dM_dual_29 : decode bM_dual 29 = .ok (.iconst 2, 1) := by decide +kernel
theorem dM_dual_30 : decode bM_dual 30 = .ok (.goto 4, 3) := by decide +kernel
theorem dM_dual_33 : decode bM_dual 33 = .ok (.iconst 0, 1) := by decide +kernel
theorem dM_dual_34 : decode bM_dual 34 = .ok (.putfield 52, 3) := by decide +kernel
theorem dM_dual_37 : decode bM_dual 37 = .ok (.aload_n 0, 1) := by decide +kernel
theorem dM_dual_38 : decode bM_dual 38 = .ok (.getfield 52, 3) := by decide +kernel
theorem dM_dual_41 : decode bM_dual 41 = .ok (.ifCond .le 5, 3) := by decide +kernel
theorem dM_dual_44 : decode bM_dual 44 = .ok (.lconst 0, 1) := by decide +kernel
theorem dM_dual_45 : decode bM_dual 45 = .ok (.lreturn, 1) := by decide +kernel
theorem dM_dual_46 : decode bM_dual 46 = .ok (.aload_n 0, 1) := by decide +kernel
theorem dM_dual_47 : decode bM_dual 47 = .ok (.getfield 26, 3) := by decide +kernel
theorem dM_dual_50 : decode bM_dual 50 = .ok (.iload_n 1, 1) := by decide +kernel
theorem dM_dual_51 : decode bM_dual 51 = .ok (.iaload, 1) := by decide +kernel
theorem dM_dual_52 : decode bM_dual 52 = .ok (.istore_n 3, 1) := by decide +kernel
theorem dM_dual_53 : decode bM_dual 53 = .ok (.iload_n 3, 1) := by decide +kernel
theorem dM_dual_54 : decode bM_dual 54 = .ok (.iconst (-1), 1) := by decide +kernel
theorem dM_dual_55 : decode bM_dual 55 = .ok (.if_icmp .ne 7, 3) := by decide +kernel
theorem dM_dual_58 : decode bM_dual 58 = .ok (.lconst 0, 1) := by decide +kernel
theorem dM_dual_59 : decode bM_dual 59 = .ok (.goto 52, 3) := by decide +kernel
theorem dM_dual_62 : decode bM_dual 62 = .ok (.aload_n 0, 1) := by decide +kernel
theorem dM_dual_63 : decode bM_dual 63 = .ok (.getfield 13, 3) := by decide +kernel
theorem dM_dual_66 : decode bM_dual 66 = .ok (.iload_n 1, 1) := by decide +kernel
theorem dM_dual_67 : decode bM_dual 67 = .ok (.iaload, 1) := by decide +kernel
theorem dM_dual_68 : decode bM_dual 68 = .ok (.iconst 1, 1) := by decide +kernel
theorem dM_dual_69 : decode bM_dual 69 = .ok (.if_icmp .ne 12, 3) := by decide +kernel
theorem dM_dual_72 : decode bM_dual 72 = .ok (.aload_n 0, 1) := by decide +kernel
theorem dM_dual_73 : decode bM_dual 73 = .ok (.iload_n 3, 1) := by decide +kernel
theorem dM_dual_74 : decode bM_dual 74 = .ok (.invokevirtual 141, 3) := by decide +kernel
theorem dM_dual_77 : decode bM_dual 77 = .ok (.lneg, 1) := by decide +kernel
theorem dM_dual_78 : decode bM_dual 78 = .ok (.goto 33, 3) := by decide +kernel
theorem dM_dual_81 : decode bM_dual 81 = .ok (.aload_n 0, 1) := by decide +kernel
theorem dM_dual_82 : decode bM_dual 82 = .ok (.getfield 13, 3) := by decide +kernel
theorem dM_dual_85 : decode bM_dual 85 = .ok (.iload_n 1, 1) := by decide +kernel
theorem dM_dual_86 : decode bM_dual 86 = .ok (.iaload, 1) := by decide +kernel
theorem dM_dual_87 : decode bM_dual 87 = .ok (.ifCond .ne 11, 3) := by decide +kernel
theorem dM_dual_90 : decode bM_dual 90 = .ok (.aload_n 0, 1) := by decide +kernel
theorem dM_dual_91 : decode bM_dual 91 = .ok (.iload_n 3, 1) := by decide +kernel
theorem dM_dual_92 : decode bM_dual 92 = .ok (.invokevirtual 141, 3) := by decide +kernel
theorem dM_dual_95 : decode bM_dual 95 = .ok (.goto 16, 3) := by decide +kernel
theorem dM_dual_98 : decode bM_dual 98 = .ok (.aload_n 0, 1) := by decide +kernel
theorem dM_dual_99 : decode bM_dual 99 = .ok (.iload_n 3, 1) := by decide +kernel
theorem dM_dual_100 : decode bM_dual 100 = .ok (.invokevirtual 141, 3) := by decide +kernel
theorem dM_dual_103 : decode bM_dual 103 = .ok (.aload_n 0, 1) := by decide +kernel
theorem dM_dual_104 : decode bM_dual 104 = .ok (.iload_n 3, 1) := by decide +kernel
theorem dM_dual_105 : decode bM_dual 105 = .ok (.iconst 1, 1) := by decide +kernel
theorem dM_dual_106 : decode bM_dual 106 = .ok (.iadd, 1) := by decide +kernel
theorem dM_dual_107 : decode bM_dual 107 = .ok (.invokevirtual 141, 3) := by decide +kernel
theorem dM_dual_110 : decode bM_dual 110 = .ok (.lsub, 1) := by decide +kernel
theorem dM_dual_111 : decode bM_dual 111 = .ok (.lstore 4, 2) := by decide +kernel
theorem dM_dual_113 : decode bM_dual 113 = .ok (.aload_n 0, 1) := by decide +kernel
theorem dM_dual_114 : decode bM_dual 114 = .ok (.lload 4, 2) := by decide +kernel
theorem dM_dual_116 : decode bM_dual 116 = .ok (.iload_n 2, 1) := by decide +kernel
theorem dM_dual_117 : decode bM_dual 117 = .ok (.invokevirtual 133, 3) := by decide +kernel
theorem dM_dual_120 : decode bM_dual 120 = .ok (.lreturn, 1) := by decide +kernel
theorem dM_weight_0 : decode bM_weight 0 = .ok (.iload_n 1, 1) := by decide +kernel
theorem dM_weight_1 : decode bM_weight 1 = .ok (.aload_n 0, 1) := by decide +kernel
theorem dM_weight_2 : decode bM_weight 2 = .ok (.getfield 45, 3) := by decide +kernel
theorem dM_weight_5 : decode bM_weight 5 = .ok (.if_icmp .ne 10, 3) := by decide +kernel
theorem dM_weight_8 : decode bM_weight 8 = .ok (.aload_n 0, 1) := by decide +kernel
theorem dM_weight_9 : decode bM_weight 9 = .ok (.getfield 29, 3) := by decide +kernel
theorem dM_weight_12 : decode bM_weight 12 = .ok (.goto 37, 3) := by decide +kernel
theorem dM_weight_15 : decode bM_weight 15 = .ok (.aload_n 0, 1) := by decide +kernel
theorem dM_weight_16 : decode bM_weight 16 = .ok (.getfield 33, 3) := by decide +kernel
theorem dM_weight_19 : decode bM_weight 19 = .ok (.iload_n 1, 1) := by decide +kernel
theorem dM_weight_20 : decode bM_weight 20 = .ok (.iaload, 1) := by decide +kernel
theorem dM_weight_21 : decode bM_weight 21 = .ok (.iconst (-1), 1) := by decide +kernel
theorem dM_weight_22 : decode bM_weight 22 = .ok (.if_icmp .ne 7, 3) := by decide +kernel
theorem dM_weight_25 : decode bM_weight 25 = .ok (.lconst 0, 1) := by decide +kernel
theorem dM_weight_26 : decode bM_weight 26 = .ok (.goto 23, 3) := by decide +kernel
theorem dM_weight_29 : decode bM_weight 29 = .ok (.aload_n 0, 1) := by decide +kernel
theorem dM_weight_30 : decode bM_weight 30 = .ok (.getfield 39, 3) := by decide +kernel
theorem dM_weight_33 : decode bM_weight 33 = .ok (.bipush 13, 2) := by decide +kernel
theorem dM_weight_35 : decode bM_weight 35 = .ok (.aload_n 0, 1) := by decide +kernel
theorem dM_weight_36 : decode bM_weight 36 = .ok (.getfield 45, 3) := by decide +kernel
theorem dM_weight_39 : decode bM_weight 39 = .ok (.imul, 1) := by decide +kernel
theorem dM_weight_40 : decode bM_weight 40 = .ok (.aload_n 0, 1) := by decide +kernel
theorem dM_weight_41 : decode bM_weight 41 = .ok (.getfield 33, 3) := by decide +kernel
theorem dM_weight_44 : decode bM_weight 44 = .ok (.iload_n 1, 1) := by decide +kernel
theorem dM_weight_45 : decode bM_weight 45 = .ok (.iaload, 1) := by decide +kernel
theorem dM_weight_46 : decode bM_weight 46 = .ok (.iadd, 1) := by decide +kernel
theorem dM_weight_47 : decode bM_weight 47 = .ok (.laload, 1) := by decide +kernel
theorem dM_weight_48 : decode bM_weight 48 = .ok (.lneg, 1) := by decide +kernel
theorem dM_weight_49 : decode bM_weight 49 = .ok (.lreturn, 1) := by decide +kernel
theorem dM_factorOf_0 : decode bM_factorOf 0 = .ok (.aload_n 0, 1) := by decide +kernel
theorem dM_factorOf_1 : decode bM_factorOf 1 = .ok (.iload_n 1, 1) := by decide +kernel
theorem dM_factorOf_2 : decode bM_factorOf 2 = .ok (.i2l, 1) := by decide +kernel
theorem dM_factorOf_3 : decode bM_factorOf 3 = .ok (.lconst 0, 1) := by decide +kernel
theorem dM_factorOf_4 : decode bM_factorOf 4 = .ok (.aload_n 0, 1) := by decide +kernel
theorem dM_factorOf_5 : decode bM_factorOf 5 = .ok (.getfield 72, 3) := by decide +kernel
theorem dM_factorOf_8 : decode bM_factorOf 8 = .ok (.iconst 1, 1) := by decide +kernel
theorem dM_factorOf_9 : decode bM_factorOf 9 = .ok (.isub, 1) := by decide +kernel
theorem dM_factorOf_10 : decode bM_factorOf 10 = .ok (.i2l, 1) := by decide +kernel
theorem dM_factorOf_11 : decode bM_factorOf 11 = .ok (.invokestatic 68, 3) := by decide +kernel
theorem dM_factorOf_14 : decode bM_factorOf 14 = .ok (.ifCond .ne 7, 3) := by decide +kernel
theorem dM_factorOf_17 : decode bM_factorOf 17 = .ok (.iconst 1, 1) := by decide +kernel
theorem dM_factorOf_18 : decode bM_factorOf 18 = .ok (.goto 28, 3) := by decide +kernel
theorem dM_factorOf_21 : decode bM_factorOf 21 = .ok (.aload_n 0, 1) := by decide +kernel
theorem dM_factorOf_22 : decode bM_factorOf 22 = .ok (.getfield 45, 3) := by decide +kernel
theorem dM_factorOf_25 : decode bM_factorOf 25 = .ok (.iconst (-1), 1) := by decide +kernel
theorem dM_factorOf_26 : decode bM_factorOf 26 = .ok (.if_icmp .ne 7, 3) := by decide +kernel
theorem dM_factorOf_29 : decode bM_factorOf 29 = .ok (.iconst 2, 1) := by decide +kernel
theorem dM_factorOf_30 : decode bM_factorOf 30 = .ok (.goto 16, 3) := by decide +kernel
theorem dM_factorOf_33 : decode bM_factorOf 33 = .ok (.aload_n 0, 1) := by decide +kernel
theorem dM_factorOf_34 : decode bM_factorOf 34 = .ok (.iload_n 2, 1) := by decide +kernel
theorem dM_factorOf_35 : decode bM_factorOf 35 = .ok (.invokevirtual 130, 3) := by decide +kernel
theorem dM_factorOf_38 : decode bM_factorOf 38 = .ok (.ifCond .ne 7, 3) := by decide +kernel
theorem dM_factorOf_41 : decode bM_factorOf 41 = .ok (.iconst 3, 1) := by decide +kernel
theorem dM_factorOf_42 : decode bM_factorOf 42 = .ok (.goto 4, 3) := by decide +kernel
theorem dM_factorOf_45 : decode bM_factorOf 45 = .ok (.iconst 0, 1) := by decide +kernel
theorem dM_factorOf_46 : decode bM_factorOf 46 = .ok (.putfield 52, 3) := by decide +kernel
theorem dM_factorOf_49 : decode bM_factorOf 49 = .ok (.aload_n 0, 1) := by decide +kernel
theorem dM_factorOf_50 : decode bM_factorOf 50 = .ok (.getfield 52, 3) := by decide +kernel
theorem dM_factorOf_53 : decode bM_factorOf 53 = .ok (.ifCond .le 5, 3) := by decide +kernel
theorem dM_factorOf_56 : decode bM_factorOf 56 = .ok (.lconst 0, 1) := by decide +kernel
theorem dM_factorOf_57 : decode bM_factorOf 57 = .ok (.lreturn, 1) := by decide +kernel
theorem dM_factorOf_58 : decode bM_factorOf 58 = .ok (.aload_n 0, 1) := by decide +kernel
theorem dM_factorOf_59 : decode bM_factorOf 59 = .ok (.getfield 26, 3) := by decide +kernel
theorem dM_factorOf_62 : decode bM_factorOf 62 = .ok (.iload_n 1, 1) := by decide +kernel
theorem dM_factorOf_63 : decode bM_factorOf 63 = .ok (.iaload, 1) := by decide +kernel
theorem dM_factorOf_64 : decode bM_factorOf 64 = .ok (.istore_n 3, 1) := by decide +kernel
theorem dM_factorOf_65 : decode bM_factorOf 65 = .ok (.iload_n 3, 1) := by decide +kernel
theorem dM_factorOf_66 : decode bM_factorOf 66 = .ok (.iconst (-1), 1) := by decide +kernel
theorem dM_factorOf_67 : decode bM_factorOf 67 = .ok (.if_icmp .ne 7, 3) := by decide +kernel
theorem dM_factorOf_70 : decode bM_factorOf 70 = .ok (.lconst 0, 1) := by decide +kernel
theorem dM_factorOf_71 : decode bM_factorOf 71 = .ok (.goto 52, 3) := by decide +kernel
theorem dM_factorOf_74 : decode bM_factorOf 74 = .ok (.aload_n 0, 1) := by decide +kernel
theorem dM_factorOf_75 : decode bM_factorOf 75 = .ok (.getfield 13, 3) := by decide +kernel
theorem dM_factorOf_78 : decode bM_factorOf 78 = .ok (.iload_n 1, 1) := by decide +kernel
theorem dM_factorOf_79 : decode bM_factorOf 79 = .ok (.iaload, 1) := by decide +kernel
theorem dM_factorOf_80 : decode bM_factorOf 80 = .ok (.iconst 1, 1) := by decide +kernel
theorem dM_factorOf_81 : decode bM_factorOf 81 = .ok (.if_icmp .ne 12, 3) := by decide +kernel
theorem dM_factorOf_84 : decode bM_factorOf 84 = .ok (.aload_n 0, 1) := by decide +kernel
theorem dM_factorOf_85 : decode bM_factorOf 85 = .ok (.iload_n 3, 1) := by decide +kernel
theorem dM_factorOf_86 : decode bM_factorOf 86 = .ok (.invokevirtual 144, 3) := by decide +kernel
theorem dM_factorOf_89 : decode bM_factorOf 89 = .ok (.lneg, 1) := by decide +kernel
theorem dM_factorOf_90 : decode bM_factorOf 90 = .ok (.goto 33, 3) := by decide +kernel
theorem dM_factorOf_93 : decode bM_factorOf 93 = .ok (.aload_n 0, 1) := by decide +kernel
theorem dM_factorOf_94 : decode bM_factorOf 94 = .ok (.getfield 13, 3) := by decide +kernel
theorem dM_factorOf_97 : decode bM_factorOf 97 = .ok (.iload_n 1, 1) := by decide +kernel
theorem dM_factorOf_98 : decode bM_factorOf 98 = .ok (.iaload, 1) := by decide +kernel
theorem dM_factorOf_99 : decode bM_factorOf 99 = .ok (.ifCond .ne 11, 3) := by decide +kernel
theorem dM_factorOf_102 : decode bM_factorOf 102 = .ok (.aload_n 0, 1) := by decide +kernel
theorem dM_factorOf_103 : decode bM_factorOf 103 = .ok (.iload_n 3, 1) := by decide +kernel
theorem dM_factorOf_104 : decode bM_factorOf 104 = .ok (.invokevirtual 144, 3) := by decide +kernel
theorem dM_factorOf_107 : decode bM_factorOf 107 = .ok (.goto 16, 3) := by decide +kernel
theorem dM_factorOf_110 : decode bM_factorOf 110 = .ok (.aload_n 0, 1) := by decide +kernel
theorem dM_factorOf_111 : decode bM_factorOf 111 = .ok (.iload_n 3, 1) := by decide +kernel
theorem dM_factorOf_112 : decode bM_factorOf 112 = .ok (.invokevirtual 144, 3) := by decide +kernel
theorem dM_factorOf_115 : decode bM_factorOf 115 = .ok (.aload_n 0, 1) := by decide +kernel
theorem dM_factorOf_116 : decode bM_factorOf 116 = .ok (.iload_n 3, 1) := by decide +kernel
theorem dM_factorOf_117 : decode bM_factorOf 117 = .ok (.iconst 1, 1) := by decide +kernel
theorem dM_factorOf_118 : decode bM_factorOf 118 = .ok (.iadd, 1) := by decide +kernel
theorem dM_factorOf_119 : decode bM_factorOf 119 = .ok (.invokevirtual 144, 3) := by decide +kernel
theorem dM_factorOf_122 : decode bM_factorOf 122 = .ok (.lsub, 1) := by decide +kernel
theorem dM_factorOf_123 : decode bM_factorOf 123 = .ok (.lstore 4, 2) := by decide +kernel
theorem dM_factorOf_125 : decode bM_factorOf 125 = .ok (.aload_n 0, 1) := by decide +kernel
theorem dM_factorOf_126 : decode bM_factorOf 126 = .ok (.lload 4, 2) := by decide +kernel
theorem dM_factorOf_128 : decode bM_factorOf 128 = .ok (.iload_n 2, 1) := by decide +kernel
theorem dM_factorOf_129 : decode bM_factorOf 129 = .ok (.invokevirtual 133, 3) := by decide +kernel
theorem dM_factorOf_132 : decode bM_factorOf 132 = .ok (.lreturn, 1) := by decide +kernel
theorem dM_check_0 : decode bM_check 0 = .ok (.aload_n 0, 1) := by decide +kernel
theorem dM_check_1 : decode bM_check 1 = .ok (.iconst 0, 1) := by decide +kernel
theorem dM_check_2 : decode bM_check 2 = .ok (.putfield 52, 3) := by decide +kernel
theorem dM_check_5 : decode bM_check 5 = .ok (.iconst 0, 1) := by decide +kernel
theorem dM_check_6 : decode bM_check 6 = .ok (.istore_n 1, 1) := by decide +kernel
theorem dM_check_7 : decode bM_check 7 = .ok (.iload_n 1, 1) := by decide +kernel
theorem dM_check_8 : decode bM_check 8 = .ok (.aload_n 0, 1) := by decide +kernel
theorem dM_check_9 : decode bM_check 9 = .ok (.getfield 72, 3) := by decide +kernel
theorem dM_check_12 : decode bM_check 12 = .ok (.if_icmp .ge 131, 3) := by decide +kernel
theorem dM_check_15 : decode bM_check 15 = .ok (.aload_n 0, 1) := by decide +kernel
theorem dM_check_16 : decode bM_check 16 = .ok (.getfield 29, 3) := by decide +kernel
theorem dM_check_19 : decode bM_check 19 = .ok (.lneg, 1) := by decide +kernel
theorem dM_check_20 : decode bM_check 20 = .ok (.aload_n 0, 1) := by decide +kernel
theorem dM_check_21 : decode bM_check 21 = .ok (.getfield 20, 3) := by decide +kernel
theorem dM_check_24 : decode bM_check 24 = .ok (.iload_n 1, 1) := by decide +kernel
theorem dM_check_25 : decode bM_check 25 = .ok (.laload, 1) := by decide +kernel
theorem dM_check_26 : decode bM_check 26 = .ok (.lmul, 1) := by decide +kernel
theorem dM_check_27 : decode bM_check 27 = .ok (.lstore_n 2, 1) := by decide +kernel
theorem dM_check_28 : decode bM_check 28 = .ok (.iconst 0, 1) := by decide +kernel
theorem dM_check_29 : decode bM_check 29 = .ok (.istore 4, 2) := by decide +kernel
theorem dM_check_31 : decode bM_check 31 = .ok (.iload 4, 2) := by decide +kernel
theorem dM_check_33 : decode bM_check 33 = .ok (.aload_n 0, 1) := by decide +kernel
theorem dM_check_34 : decode bM_check 34 = .ok (.getfield 59, 3) := by decide +kernel
theorem dM_check_37 : decode bM_check 37 = .ok (.if_icmp .ge 31, 3) := by decide +kernel
theorem dM_check_40 : decode bM_check 40 = .ok (.lload_n 2, 1) := by decide +kernel
theorem dM_check_41 : decode bM_check 41 = .ok (.aload_n 0, 1) := by decide +kernel
theorem dM_check_42 : decode bM_check 42 = .ok (.getfield 23, 3) := by decide +kernel
theorem dM_check_45 : decode bM_check 45 = .ok (.bipush 12, 2) := by decide +kernel
theorem dM_check_47 : decode bM_check 47 = .ok (.iload_n 1, 1) := by decide +kernel
theorem dM_check_48 : decode bM_check 48 = .ok (.imul, 1) := by decide +kernel
theorem dM_check_49 : decode bM_check 49 = .ok (.iload 4, 2) := by decide +kernel
theorem dM_check_51 : decode bM_check 51 = .ok (.iadd, 1) := by decide +kernel
theorem dM_check_52 : decode bM_check 52 = .ok (.laload, 1) := by decide +kernel
theorem dM_check_53 : decode bM_check 53 = .ok (.aload_n 0, 1) := by decide +kernel
theorem dM_check_54 : decode bM_check 54 = .ok (.iload 4, 2) := by decide +kernel
theorem dM_check_56 : decode bM_check 56 = .ok (.invokevirtual 137, 3) := by decide +kernel
theorem dM_check_59 : decode bM_check 59 = .ok (.lmul, 1) := by decide +kernel
theorem dM_check_60 : decode bM_check 60 = .ok (.ladd, 1) := by decide +kernel
theorem dM_check_61 : decode bM_check 61 = .ok (.lstore_n 2, 1) := by decide +kernel
theorem dM_check_62 : decode bM_check 62 = .ok (.iinc 4 1, 3) := by decide +kernel
theorem dM_check_65 : decode bM_check 65 = .ok (.goto (-34), 3) := by decide +kernel
theorem dM_check_68 : decode bM_check 68 = .ok (.aload_n 0, 1) := by decide +kernel
theorem dM_check_69 : decode bM_check 69 = .ok (.getfield 13, 3) := by decide +kernel
theorem dM_check_72 : decode bM_check 72 = .ok (.iload_n 1, 1) := by decide +kernel
theorem dM_check_73 : decode bM_check 73 = .ok (.iaload, 1) := by decide +kernel
theorem dM_check_74 : decode bM_check 74 = .ok (.ifCond .ne 17, 3) := by decide +kernel
theorem dM_check_77 : decode bM_check 77 = .ok (.lload_n 2, 1) := by decide +kernel
theorem dM_check_78 : decode bM_check 78 = .ok (.lconst 0, 1) := by decide +kernel
theorem dM_check_79 : decode bM_check 79 = .ok (.lcmp, 1) := by decide +kernel
theorem dM_check_80 : decode bM_check 80 = .ok (.ifCond .lt 7, 3) := by decide +kernel
theorem dM_check_83 : decode bM_check 83 = .ok (.iconst 1, 1) := by decide +kernel
theorem dM_check_84 : decode bM_check 84 = .ok (.goto 42, 3) := by decide +kernel
theorem dM_check_87 : decode bM_check 87 = .ok (.iconst 0, 1) := by decide +kernel
theorem dM_check_88 : decode bM_check 88 = .ok (.goto 38, 3) := by decide +kernel
theorem dM_check_91 : decode bM_check 91 = .ok (.aload_n 0, 1) := by decide +kernel
theorem dM_check_92 : decode bM_check 92 = .ok (.getfield 13, 3) := by decide +kernel
theorem dM_check_95 : decode bM_check 95 = .ok (.iload_n 1, 1) := by decide +kernel
theorem dM_check_96 : decode bM_check 96 = .ok (.iaload, 1) := by decide +kernel
theorem dM_check_97 : decode bM_check 97 = .ok (.iconst 1, 1) := by decide +kernel
theorem dM_check_98 : decode bM_check 98 = .ok (.if_icmp .ne 17, 3) := by decide +kernel
theorem dM_check_101 : decode bM_check 101 = .ok (.lload_n 2, 1) := by decide +kernel
theorem dM_check_102 : decode bM_check 102 = .ok (.lconst 0, 1) := by decide +kernel
theorem dM_check_103 : decode bM_check 103 = .ok (.lcmp, 1) := by decide +kernel
theorem dM_check_104 : decode bM_check 104 = .ok (.ifCond .gt 7, 3) := by decide +kernel
theorem dM_check_107 : decode bM_check 107 = .ok (.iconst 1, 1) := by decide +kernel
theorem dM_check_108 : decode bM_check 108 = .ok (.goto 18, 3) := by decide +kernel
theorem dM_check_111 : decode bM_check 111 = .ok (.iconst 0, 1) := by decide +kernel
theorem dM_check_112 : decode bM_check 112 = .ok (.goto 14, 3) := by decide +kernel
theorem dM_check_115 : decode bM_check 115 = .ok (.lload_n 2, 1) := by decide +kernel
theorem dM_check_116 : decode bM_check 116 = .ok (.lconst 0, 1) := by decide +kernel
theorem dM_check_117 : decode bM_check 117 = .ok (.lcmp, 1) := by decide +kernel
theorem dM_check_118 : decode bM_check 118 = .ok (.ifCond .ne 7, 3) := by decide +kernel
theorem dM_check_121 : decode bM_check 121 = .ok (.iconst 1, 1) := by decide +kernel
theorem dM_check_122 : decode bM_check 122 = .ok (.goto 4, 3) := by decide +kernel
theorem dM_check_125 : decode bM_check 125 = .ok (.iconst 0, 1) := by decide +kernel
theorem dM_check_126 : decode bM_check 126 = .ok (.istore 4, 2) := by decide +kernel
theorem dM_check_128 : decode bM_check 128 = .ok (.iload 4, 2) := by decide +kernel
theorem dM_check_130 : decode bM_check 130 = .ok (.ifCond .ne 7, 3) := by decide +kernel
theorem dM_check_133 : decode bM_check 133 = .ok (.iload_n 1, 1) := by decide +kernel
theorem dM_check_134 : decode bM_check 134 = .ok (.iconst 1, 1) := by decide +kernel
theorem dM_check_135 : decode bM_check 135 = .ok (.iadd, 1) := by decide +kernel
theorem dM_check_136 : decode bM_check 136 = .ok (.ireturn, 1) := by decide +kernel
theorem dM_check_137 : decode bM_check 137 = .ok (.iinc 1 1, 3) := by decide +kernel
theorem dM_check_140 : decode bM_check 140 = .ok (.goto (-133), 3) := by decide +kernel
theorem dM_check_143 : decode bM_check 143 = .ok (.iconst 0, 1) := by decide +kernel
theorem dM_check_144 : decode bM_check 144 = .ok (.ireturn, 1) := by decide +kernel
theorem dM_steps_0 : decode bM_steps 0 = .ok (.aload_n 0, 1) := by decide +kernel
theorem dM_steps_1 : decode bM_steps 1 = .ok (.iconst 0, 1) := by decide +kernel
theorem dM_steps_2 : decode bM_steps 2 = .ok (.putfield 52, 3) := by decide +kernel
theorem dM_steps_5 : decode bM_steps 5 = .ok (.aload_n 0, 1) := by decide +kernel
theorem dM_steps_6 : decode bM_steps 6 = .ok (.getfield 108, 3) := by decide +kernel
theorem dM_steps_9 : decode bM_steps 9 = .ok (.ireturn, 1) := by decide +kernel
theorem dM_count_0 : decode bM_count 0 = .ok (.aload_n 0, 1) := by decide +kernel
theorem dM_count_1 : decode bM_count 1 = .ok (.iconst 0, 1) := by decide +kernel
theorem dM_count_2 : decode bM_count 2 = .ok (.putfield 52, 3) := by decide +kernel
theorem dM_count_5 : decode bM_count 5 = .ok (.iload_n 1, 1) := by decide +kernel
theorem dM_count_6 : decode bM_count 6 = .ok (.i2l, 1) := by decide +kernel
theorem dM_count_7 : decode bM_count 7 = .ok (.ldc2_w 147, 3) := by decide +kernel
theorem dM_count_10 : decode bM_count 10 = .ok (.iconst 4, 1) := by decide +kernel
theorem dM_count_11 : decode bM_count 11 = .ok (.aload_n 0, 1) := by decide +kernel
theorem dM_count_12 : decode bM_count 12 = .ok (.getfield 49, 3) := by decide +kernel
theorem dM_count_15 : decode bM_count 15 = .ok (.iadd, 1) := by decide +kernel
theorem dM_count_16 : decode bM_count 16 = .ok (.i2l, 1) := by decide +kernel
theorem dM_count_17 : decode bM_count 17 = .ok (.invokestatic 68, 3) := by decide +kernel
theorem dM_count_20 : decode bM_count 20 = .ok (.ifCond .eq 43, 3) := by decide +kernel
theorem dM_count_23 : decode bM_count 23 = .ok (.iconst 0, 1) := by decide +kernel
theorem dM_count_24 : decode bM_count 24 = .ok (.istore_n 2, 1) := by decide +kernel
theorem dM_count_25 : decode bM_count 25 = .ok (.iconst 0, 1) := by decide +kernel
theorem dM_count_26 : decode bM_count 26 = .ok (.istore_n 3, 1) := by decide +kernel
theorem dM_count_27 : decode bM_count 27 = .ok (.iload_n 3, 1) := by decide +kernel
theorem dM_count_28 : decode bM_count 28 = .ok (.aload_n 0, 1) := by decide +kernel
theorem dM_count_29 : decode bM_count 29 = .ok (.getfield 72, 3) := by decide +kernel
theorem dM_count_32 : decode bM_count 32 = .ok (.if_icmp .ge 29, 3) := by decide +kernel
theorem dM_count_35 : decode bM_count 35 = .ok (.iload_n 2, 1) := by decide +kernel
theorem dM_count_36 : decode bM_count 36 = .ok (.aload_n 0, 1) := by decide +kernel
theorem dM_count_37 : decode bM_count 37 = .ok (.getfield 17, 3) := by decide +kernel
theorem dM_count_40 : decode bM_count 40 = .ok (.iload_n 3, 1) := by decide +kernel
theorem dM_count_41 : decode bM_count 41 = .ok (.iaload, 1) := by decide +kernel
theorem dM_count_42 : decode bM_count 42 = .ok (.iload_n 1, 1) := by decide +kernel
theorem dM_count_43 : decode bM_count 43 = .ok (.iconst 5, 1) := by decide +kernel
theorem dM_count_44 : decode bM_count 44 = .ok (.isub, 1) := by decide +kernel
theorem dM_count_45 : decode bM_count 45 = .ok (.if_icmp .ne 7, 3) := by decide +kernel
theorem dM_count_48 : decode bM_count 48 = .ok (.iconst 1, 1) := by decide +kernel
theorem dM_count_49 : decode bM_count 49 = .ok (.goto 4, 3) := by decide +kernel
theorem dM_count_52 : decode bM_count 52 = .ok (.iconst 0, 1) := by decide +kernel
theorem dM_count_53 : decode bM_count 53 = .ok (.iadd, 1) := by decide +kernel
theorem dM_count_54 : decode bM_count 54 = .ok (.istore_n 2, 1) := by decide +kernel
theorem dM_count_55 : decode bM_count 55 = .ok (.iinc 3 1, 3) := by decide +kernel
theorem dM_count_58 : decode bM_count 58 = .ok (.goto (-31), 3) := by decide +kernel
theorem dM_count_61 : decode bM_count 61 = .ok (.iload_n 2, 1) := by decide +kernel
theorem dM_count_62 : decode bM_count 62 = .ok (.ireturn, 1) := by decide +kernel
theorem dM_count_63 : decode bM_count 63 = .ok (.iload_n 1, 1) := by decide +kernel
theorem dM_count_64 : decode bM_count 64 = .ok (.ifCond .ne 10, 3) := by decide +kernel
theorem dM_count_67 : decode bM_count 67 = .ok (.aload_n 0, 1) := by decide +kernel
theorem dM_count_68 : decode bM_count 68 = .ok (.getfield 59, 3) := by decide +kernel
theorem dM_count_71 : decode bM_count 71 = .ok (.goto 53, 3) := by decide +kernel
theorem dM_count_74 : decode bM_count 74 = .ok (.iload_n 1, 1) := by decide +kernel
theorem dM_count_75 : decode bM_count 75 = .ok (.iconst 1, 1) := by decide +kernel
theorem dM_count_76 : decode bM_count 76 = .ok (.if_icmp .ne 10, 3) := by decide +kernel
theorem dM_count_79 : decode bM_count 79 = .ok (.aload_n 0, 1) := by decide +kernel
theorem dM_count_80 : decode bM_count 80 = .ok (.getfield 72, 3) := by decide +kernel
theorem dM_count_83 : decode bM_count 83 = .ok (.goto 41, 3) := by decide +kernel
theorem dM_count_86 : decode bM_count 86 = .ok (.iload_n 1, 1) := by decide +kernel
theorem dM_count_87 : decode bM_count 87 = .ok (.iconst 2, 1) := by decide +kernel
theorem dM_count_88 : decode bM_count 88 = .ok (.if_icmp .ne 10, 3) := by decide +kernel
theorem dM_count_91 : decode bM_count 91 = .ok (.aload_n 0, 1) := by decide +kernel
theorem dM_count_92 : decode bM_count 92 = .ok (.getfield 87, 3) := by decide +kernel
theorem dM_count_95 : decode bM_count 95 = .ok (.goto 29, 3) := by decide +kernel
theorem dM_count_98 : decode bM_count 98 = .ok (.iload_n 1, 1) := by decide +kernel
theorem dM_count_99 : decode bM_count 99 = .ok (.iconst 3, 1) := by decide +kernel
theorem dM_count_100 : decode bM_count 100 = .ok (.if_icmp .ne 11, 3) := by decide +kernel
theorem dM_count_103 : decode bM_count 103 = .ok (.aload_n 0, 1) := by decide +kernel
theorem dM_count_104 : decode bM_count 104 = .ok (.getfield 29, 3) := by decide +kernel
theorem dM_count_107 : decode bM_count 107 = .ok (.l2i, 1) := by decide +kernel
theorem dM_count_108 : decode bM_count 108 = .ok (.goto 16, 3) := by decide +kernel
theorem dM_count_111 : decode bM_count 111 = .ok (.iload_n 1, 1) := by decide +kernel
theorem dM_count_112 : decode bM_count 112 = .ok (.iconst 4, 1) := by decide +kernel
theorem dM_count_113 : decode bM_count 113 = .ok (.if_icmp .ne 10, 3) := by decide +kernel
theorem dM_count_116 : decode bM_count 116 = .ok (.aload_n 0, 1) := by decide +kernel
theorem dM_count_117 : decode bM_count 117 = .ok (.getfield 49, 3) := by decide +kernel
theorem dM_count_120 : decode bM_count 120 = .ok (.goto 4, 3) := by decide +kernel
theorem dM_count_123 : decode bM_count 123 = .ok (.iconst (-1), 1) := by decide +kernel
theorem dM_count_124 : decode bM_count 124 = .ok (.ireturn, 1) := by decide +kernel
end
section
set_option maxHeartbeats 4000000 in
set_option maxRecDepth 100000 in
theorem c_M_isIn (l : Launch) (dC : Nat → ClassId) (dI : Nat → Nat → Nat) (mo : Nat → Nat) (km : Nat → ClassId) (v x y : Int64)  : Met l yM_isIn wM_isIn ({ frames := 0, cells := 0, slots := 0, locals := 0 }) (rPc [.long v, .long x, .long y] (dC, dI) vwCl ([]) ([]) xT) (rQ (some (.int (bI (isInB v x y))))) 0 0 (fun _ => False) := by
  refine Met.ofW (cc := bM_isIn) (maxL := 6) (ret := (some .boolean)) (by decide) rfl ?_
  intro p e s m args below meth c s₁ B hml hv
  obtain ⟨rfl, hP, hK, hX⟩ := hv
  have hx := B.exec
  have hb := B.bytes
  have hr := B.returns
  have hts := atoms_spec (ws := wM_isIn) B.pre
  have hta : ∀ w ∈ AW, w.before _ s = true := fun w h => hts w (List.mem_cons_of_mem _ h)
  have hown : s.vm.findClass RM = some m.cls := findClass_of_methodNamed B.named
  have hlocks := B.notSynchronized
  have hl := lv_entry ([.long v, .long x, .long y]) (n := 6) (Nat.le_of_ble_eq_true rfl)
  rw [lg_entry_eq]
  generalize (lg_sl ([.long v, .long x, .long y]) ++ List.replicate (6 - (lg_sl ([.long v, .long x, .long y])).length) Slot.unset).toArray = ls at hl ⊢
  have hl : lv_has ls 6 [(0, .long v), (2, .long x), (4, .long y)] := hl
  refine lv_lload_n hx hb dM_isIn_0 rfl (lv_at hl 0 rfl) ?_
  refine lv_lload_n hx hb dM_isIn_1 rfl (lv_at hl 1 rfl) ?_
  refine ll_lt (tgt := 17) hx hb dM_isIn_2 dM_isIn_3 (by decide) (fun h1 => ?_) (fun h1 => ?_)
  · refine lv_iconst (v := 0) hx hb dM_isIn_17 (by decide) ?_
    exact W.zret (v := 0) hx hb hr (rfl) (fun t ht hW => ⟨congrArg (fun z => Outcome.returned (some (.int z))) (by first | (rw [isInB, decide_eq_true h1]; rfl; done) | (rw [isInB, decide_eq_false h1, decide_eq_true h2]; rfl; done) | (rw [isInB, decide_eq_false h1, decide_eq_false h2]; rfl)), ht⟩) (fun q h => nomatch h) dM_isIn_18
  · refine lv_lload_n hx hb dM_isIn_6 rfl (lv_at hl 0 rfl) ?_
    refine lv_lload hx hb dM_isIn_7 (lv_at hl 2 rfl) ?_
    refine ll_gt (tgt := 17) hx hb dM_isIn_9 dM_isIn_10 (by decide) (fun h2 => ?_) (fun h2 => ?_)
    · refine lv_iconst (v := 0) hx hb dM_isIn_17 (by decide) ?_
      exact W.zret (v := 0) hx hb hr (rfl) (fun t ht hW => ⟨congrArg (fun z => Outcome.returned (some (.int z))) (by first | (rw [isInB, decide_eq_true h1]; rfl; done) | (rw [isInB, decide_eq_false h1, decide_eq_true h2]; rfl; done) | (rw [isInB, decide_eq_false h1, decide_eq_false h2]; rfl)), ht⟩) (fun q h => nomatch h) dM_isIn_18
    · refine lv_iconst (v := 1) hx hb dM_isIn_13 (by decide) ?_
      refine lv_goto (tgt := 18) hx hb dM_isIn_14 (by decide) ?_
      exact W.zret (v := 1) hx hb hr (rfl) (fun t ht hW => ⟨congrArg (fun z => Outcome.returned (some (.int z))) (by first | (rw [isInB, decide_eq_true h1]; rfl; done) | (rw [isInB, decide_eq_false h1, decide_eq_true h2]; rfl; done) | (rw [isInB, decide_eq_false h1, decide_eq_false h2]; rfl)), ht⟩) (fun q h => nomatch h) dM_isIn_18

set_option maxHeartbeats 4000000 in
set_option maxRecDepth 100000 in
theorem c_M_isGreat (l : Launch) (dC : Nat → ClassId) (dI : Nat → Nat → Nat) (mo : Nat → Nat) (km : Nat → ClassId) (v : Int64)  : Met l yM_isGreat wM_isGreat ({ frames := 0, cells := 0, slots := 0, locals := 0 }) (rPc [.long v] (dC, dI) vwCl ([]) ([]) xT) (rQ (some (.int (bI (isGrB v))))) 0 0 (fun _ => False) := by
  refine Met.ofW (cc := bM_isGreat) (maxL := 2) (ret := (some .boolean)) (by decide) rfl ?_
  intro p e s m args below meth c s₁ B hml hv
  obtain ⟨rfl, hP, hK, hX⟩ := hv
  have hx := B.exec
  have hb := B.bytes
  have hr := B.returns
  have hts := atoms_spec (ws := wM_isGreat) B.pre
  have hta : ∀ w ∈ AW, w.before _ s = true := fun w h => hts w (List.mem_cons_of_mem _ h)
  have hown : s.vm.findClass RM = some m.cls := findClass_of_methodNamed B.named
  have hlocks := B.notSynchronized
  have hl := lv_entry ([.long v]) (n := 2) (Nat.le_of_ble_eq_true rfl)
  rw [lg_entry_eq]
  generalize (lg_sl ([.long v]) ++ List.replicate (2 - (lg_sl ([.long v])).length) Slot.unset).toArray = ls at hl ⊢
  have hl : lv_has ls 2 [(0, .long v)] := hl
  refine lv_lload_n hx hb dM_isGreat_0 rfl (lv_at hl 0 rfl) ?_
  refine lv_ldc2 (v := 1000000000) hx hb hown (hta _ m_597) dM_isGreat_1 ?_
  refine ll_gt (tgt := 16) hx hb dM_isGreat_4 dM_isGreat_5 (by decide) (fun h1 => ?_) (fun h1 => ?_)
  · refine lv_iconst (v := 1) hx hb dM_isGreat_16 (by decide) ?_
    refine lv_goto (tgt := 21) hx hb dM_isGreat_17 (by decide) ?_
    exact W.zret (v := 1) hx hb hr (rfl) (fun t ht hW => ⟨congrArg (fun z => Outcome.returned (some (.int z))) (by first | (rw [isGrB, decide_eq_true h1]; rfl; done) | (rw [isGrB, decide_eq_false h1, decide_eq_true h2]; rfl; done) | (rw [isGrB, decide_eq_false h1, decide_eq_false h2]; rfl)), ht⟩) (fun q h => nomatch h) dM_isGreat_21
  · refine lv_lload_n hx hb dM_isGreat_8 rfl (lv_at hl 0 rfl) ?_
    refine lv_ldc2 (v := (-1000000000)) hx hb hown (hta _ m_598) dM_isGreat_9 ?_
    refine ll_ge (tgt := 20) hx hb dM_isGreat_12 dM_isGreat_13 (by decide) (fun h2 => ?_) (fun h2 => ?_)
    · refine lv_iconst (v := 0) hx hb dM_isGreat_20 (by decide) ?_
      exact W.zret (v := 0) hx hb hr (rfl) (fun t ht hW => ⟨congrArg (fun z => Outcome.returned (some (.int z))) (by first | (rw [isGrB, decide_eq_true h1]; rfl; done) | (rw [isGrB, decide_eq_false h1, decide_eq_true h2]; rfl; done) | (rw [isGrB, decide_eq_false h1, decide_eq_false h2]; rfl)), ht⟩) (fun q h => nomatch h) dM_isGreat_21
    · refine lv_iconst (v := 1) hx hb dM_isGreat_16 (by decide) ?_
      refine lv_goto (tgt := 21) hx hb dM_isGreat_17 (by decide) ?_
      exact W.zret (v := 1) hx hb hr (rfl) (fun t ht hW => ⟨congrArg (fun z => Outcome.returned (some (.int z))) (by first | (rw [isGrB, decide_eq_true h1]; rfl; done) | (rw [isGrB, decide_eq_false h1, decide_eq_true h2]; rfl; done) | (rw [isGrB, decide_eq_false h1, decide_eq_false h2]; rfl)), ht⟩) (fun q h => nomatch h) dM_isGreat_21

set_option maxHeartbeats 4000000 in
set_option maxRecDepth 100000 in
theorem c_M_thrown (l : Launch) (dC : Nat → ClassId) (dI : Nat → Nat → Nat) (mo : Nat → Nat) (km : Nat → ClassId) (M : MS)   : Met l yM_thrown wM_thrown ({ frames := 0, cells := 0, slots := 0, locals := 0 }) (rPc [.ref (mo 0)] (dC, dI) vwCl (MW mo km M) (MK km) xT) (rQ (some (.int (nI M.thr)))) 0 0 (fun _ => False) := by
  refine Met.ofW (cc := bM_thrown) (maxL := 1) (ret := (some .int)) (by decide) rfl ?_
  intro p e s m args below meth c s₁ B hml hv
  obtain ⟨rfl, hP, hK, hX⟩ := hv
  have hx := B.exec
  have hb := B.bytes
  have hr := B.returns
  have hts := atoms_spec (ws := wM_thrown) B.pre
  have hta : ∀ w ∈ AW, w.before _ s = true := fun w h => hts w (List.mem_cons_of_mem _ h)
  have hown : s.vm.findClass RM = some m.cls := findClass_of_methodNamed B.named
  have hlocks := B.notSynchronized
  have hl := lv_entry ([.ref (mo 0)]) (n := 1) (Nat.le_of_ble_eq_true rfl)
  rw [lg_entry_eq]
  generalize (lg_sl ([.ref (mo 0)]) ++ List.replicate (1 - (lg_sl ([.ref (mo 0)])).length) Slot.unset).toArray = ls at hl ⊢
  have hl : lv_has ls 1 [(0, .ref (mo 0))] := hl
  refine lv_aload_n hx hb dM_thrown_0 rfl (lv_at hl 0 rfl) ?_
  refine va_get (D := (dC, dI)) (ci := 2) (v := .int (nI M.thr)) (C := RM) (T := FM) (N := 19) hx hb hta iM hown hK hP 0 rfl rfl 0 (by decide) (hta _ m_492) (fun _ h9 => h9) rfl dM_thrown_1 ?_
  exact W.iret (v := nI M.thr) hx hb hr (fun t ht hW => ⟨rfl, ht⟩) (fun q h => nomatch h) dM_thrown_4

set_option maxHeartbeats 4000000 in
set_option maxRecDepth 100000 in
theorem c_M_moved (l : Launch) (dC : Nat → ClassId) (dI : Nat → Nat → Nat) (mo : Nat → Nat) (km : Nat → ClassId) (M : MS) (v q : Nat) (b : Int64) (hpl : ∀ v k, M.pl v = some k → k < 12) (hv : v < 37) (hq9 : q < 37) : Met l yM_moved wM_moved ({ frames := 0, cells := 0, slots := 0, locals := 0 }) (rPc [.ref (mo 0), .int (nI v), .int (nI q), .long b] (dC, dI) vwCl (MW mo km M) (MK km) xT) (rQ (some (.long (mvR M v q b)))) 0 0 (fun _ => False) := by
  refine Met.ofW (cc := bM_moved) (maxL := 5) (ret := (some .long)) (by decide) rfl ?_
  intro p e s m args below meth c s₁ B hml hv
  obtain ⟨rfl, hP, hK, hX⟩ := hv
  have hx := B.exec
  have hb := B.bytes
  have hr := B.returns
  have hts := atoms_spec (ws := wM_moved) B.pre
  have hta : ∀ w ∈ AW, w.before _ s = true := fun w h => hts w (List.mem_cons_of_mem _ h)
  have hown : s.vm.findClass RM = some m.cls := findClass_of_methodNamed B.named
  have hlocks := B.notSynchronized
  have hl := lv_entry ([.ref (mo 0), .int (nI v), .int (nI q), .long b]) (n := 5) (Nat.le_of_ble_eq_true rfl)
  rw [lg_entry_eq]
  generalize (lg_sl ([.ref (mo 0), .int (nI v), .int (nI q), .long b]) ++ List.replicate (5 - (lg_sl ([.ref (mo 0), .int (nI v), .int (nI q), .long b])).length) Slot.unset).toArray = ls at hl ⊢
  have hl : lv_has ls 5 [(0, .ref (mo 0)), (1, .int (nI v)), (2, .int (nI q)), (3, .long b)] := hl
  refine lv_aload_n hx hb dM_moved_0 rfl (lv_at hl 0 rfl) ?_
  refine va_get (D := (dC, dI)) (ci := 2) (v := .ref (mo 7)) (C := RM) (T := FM) (N := 19) hx hb hta iM hown hK hP 0 rfl rfl 14 (by decide) (hta _ m_506) (fun _ h9 => h9) rfl dM_moved_1 ?_
  refine lv_iload_n hx hb dM_moved_4 rfl (lv_at hl 2 rfl) ?_
  refine na_iald hx hb hK hP 7 6 rfl rfl (i := q) (by omega) (by decide) dM_moved_5 ?_
  refine W.eq (g2 := F0 m 6 ls [.int (enc (M.pl q))]) rfl ?_
  refine lv_iconst (v := (-1)) hx hb dM_moved_6 (by decide) ?_
  refine en_ne (o := (M.pl q)) (tgt := 29) hx hb dM_moved_7 (by decide) (fun j h => by have := hpl _ _ h; omega) (fun k9 ho => ?_) (fun ho => ?_)
  · have hj9 := hpl _ _ ho
    refine lv_aload_n hx hb dM_moved_29 rfl (lv_at hl 0 rfl) ?_
    refine va_get (D := (dC, dI)) (ci := 2) (v := .ref (mo 9)) (C := RM) (T := FM) (N := 19) hx hb hta iM hown hK hP 0 rfl rfl 16 (by decide) (hta _ m_508) (fun _ h9 => h9) rfl dM_moved_30 ?_
    refine lv_bipush (v := nI 13) hx hb dM_moved_33 (by decide) ?_
    refine lv_iload_n hx hb dM_moved_35 rfl (lv_at hl 1 rfl) ?_
    refine lv_imul hx hb dM_moved_36 ?_
    refine st_i (y := nI (13 * v)) (pk_mul _ _) ?_
    refine lv_aload_n hx hb dM_moved_37 rfl (lv_at hl 0 rfl) ?_
    refine va_get (D := (dC, dI)) (ci := 2) (v := .ref (mo 7)) (C := RM) (T := FM) (N := 19) hx hb hta iM hown hK hP 0 rfl rfl 14 (by decide) (hta _ m_506) (fun _ h9 => h9) rfl dM_moved_38 ?_
    refine lv_iload_n hx hb dM_moved_41 rfl (lv_at hl 2 rfl) ?_
    refine na_iald hx hb hK hP 7 6 rfl rfl (i := q) (by omega) (by decide) dM_moved_42 ?_
    refine W.eq (g2 := F0 m 43 ls [.int (enc (M.pl q)), .int (nI (13 * v)), .ref (mo 9)]) rfl ?_
    refine st_i (y := nI k9) (by rw [ho]; rfl) ?_
    refine lv_iadd hx hb dM_moved_43 ?_
    refine st_i (y := nI ((13 * v) + k9)) (nI_add _ _) ?_
    refine na_lald hx hb hK hP 9 8 rfl rfl (i := ((13 * v) + k9)) (by omega) (by decide) dM_moved_44 ?_
    refine lv_lload_n hx hb dM_moved_45 rfl (lv_at hl 3 rfl) ?_
    refine lv_lmul hx hb dM_moved_46 ?_
    exact W.lret (v := (M.ta ((13 * v) + k9)) * b) hx hb hr (fun t ht hW => ⟨congrArg (fun z => Outcome.returned (some (.long z))) (by first | (simp [mvR, ho, h1]; done) | simp [mvR, ho]), ht⟩) (fun q h => nomatch h) dM_moved_47
  · refine lv_iload_n hx hb dM_moved_10 rfl (lv_at hl 1 rfl) ?_
    refine lv_iload_n hx hb dM_moved_11 rfl (lv_at hl 2 rfl) ?_
    refine ni_ne (tgt := 25) hx hb dM_moved_12 (by decide) (by omega) (by omega) (fun h1 => ?_) (fun h1 => ?_)
    · refine lv_lconst (v := 0) hx hb dM_moved_25 (by decide) ?_
      refine lv_goto (tgt := 47) hx hb dM_moved_26 (by decide) ?_
      exact W.lret (v := 0) hx hb hr (fun t ht hW => ⟨congrArg (fun z => Outcome.returned (some (.long z))) (by first | (simp [mvR, ho, h1]; done) | simp [mvR, ho]), ht⟩) (fun q h => nomatch h) dM_moved_47
    · refine lv_aload_n hx hb dM_moved_15 rfl (lv_at hl 0 rfl) ?_
      refine va_get (D := (dC, dI)) (ci := 2) (v := .long M.dn) (C := RM) (T := FM) (N := 19) hx hb hta iM hown hK hP 0 rfl rfl 13 (by decide) (hta _ m_505) (fun _ h9 => h9) rfl dM_moved_16 ?_
      refine lv_lneg hx hb dM_moved_19 ?_
      refine lv_lload_n hx hb dM_moved_20 rfl (lv_at hl 3 rfl) ?_
      refine lv_lmul hx hb dM_moved_21 ?_
      refine lv_goto (tgt := 47) hx hb dM_moved_22 (by decide) ?_
      exact W.lret (v := (-M.dn) * b) hx hb hr (fun t ht hW => ⟨congrArg (fun z => Outcome.returned (some (.long z))) (by first | (simp [mvR, ho, h1]; done) | simp [mvR, ho]), ht⟩) (fun q h => nomatch h) dM_moved_47

set_option maxHeartbeats 4000000 in
set_option maxRecDepth 100000 in
theorem c_M_isInside (l : Launch) (dC : Nat → ClassId) (dI : Nat → Nat → Nat) (mo : Nat → Nat) (km : Nat → ClassId) (M : MS) (v : Nat) (hv : v < 37) (hcl : M.co + M.ln ≤ 36) (hpl : ∀ v k, M.pl v = some k → k < 12) : Met l yM_isInside wM_isInside ({ frames := 0, cells := 0, slots := 0, locals := 0 }) (rPc [.ref (mo 0), .int (nI v)] (dC, dI) vwCl (MW mo km M) (MK km) xT) (rQ (some (.int (bI (inB M v))))) 0 0 (fun _ => False) := by
  refine Met.ofW (cc := bM_isInside) (maxL := 2) (ret := (some .boolean)) (by decide) rfl ?_
  intro p e s m args below meth c s₁ B hml hv
  obtain ⟨rfl, hP, hK, hX⟩ := hv
  have hx := B.exec
  have hb := B.bytes
  have hr := B.returns
  have hts := atoms_spec (ws := wM_isInside) B.pre
  have hta : ∀ w ∈ AW, w.before _ s = true := fun w h => hts w (List.mem_cons_of_mem _ h)
  have hown : s.vm.findClass RM = some m.cls := findClass_of_methodNamed B.named
  have hlocks := B.notSynchronized
  have hl := lv_entry ([.ref (mo 0), .int (nI v)]) (n := 2) (Nat.le_of_ble_eq_true rfl)
  rw [lg_entry_eq]
  generalize (lg_sl ([.ref (mo 0), .int (nI v)]) ++ List.replicate (2 - (lg_sl ([.ref (mo 0), .int (nI v)])).length) Slot.unset).toArray = ls at hl ⊢
  have hl : lv_has ls 2 [(0, .ref (mo 0)), (1, .int (nI v))] := hl
  refine lv_iload_n hx hb dM_isInside_0 rfl (lv_at hl 1 rfl) ?_
  refine lv_bipush (v := nI 36) hx hb dM_isInside_1 (by decide) ?_
  refine ni_eq (tgt := 29) hx hb dM_isInside_3 (by decide) (by omega) (by omega) (fun h1 => ?_) (fun h1 => ?_)
  · refine lv_iconst (v := 1) hx hb dM_isInside_29 (by decide) ?_
    refine lv_goto (tgt := 34) hx hb dM_isInside_30 (by decide) ?_
    exact W.zret (v := 1) hx hb hr (rfl) (fun t ht hW => ⟨congrArg (fun z => Outcome.returned (some (.int z))) (by first | (rw [inB, decide_eq_true h1]; rfl; done) | (rw [inB, decide_eq_false h1, decide_eq_false (Nat.not_lt.mpr h2)]; rfl; done) | (rw [inB, decide_eq_false h1, decide_eq_true h2, ho]; rfl)), ht⟩) (fun q h => nomatch h) dM_isInside_34
  · refine lv_iload_n hx hb dM_isInside_6 rfl (lv_at hl 1 rfl) ?_
    refine lv_aload_n hx hb dM_isInside_7 rfl (lv_at hl 0 rfl) ?_
    refine va_get (D := (dC, dI)) (ci := 2) (v := .int (nI M.co)) (C := RM) (T := FM) (N := 19) hx hb hta iM hown hK hP 0 rfl rfl 2 (by decide) (hta _ m_494) (fun _ h9 => h9) rfl dM_isInside_8 ?_
    refine lv_aload_n hx hb dM_isInside_11 rfl (lv_at hl 0 rfl) ?_
    refine va_get (D := (dC, dI)) (ci := 2) (v := .int (nI M.ln)) (C := RM) (T := FM) (N := 19) hx hb hta iM hown hK hP 0 rfl rfl 10 (by decide) (hta _ m_502) (fun _ h9 => h9) rfl dM_isInside_12 ?_
    refine lv_iadd hx hb dM_isInside_15 ?_
    refine st_i (y := nI (M.co + M.ln)) (nI_add _ _) ?_
    refine ni_ge (tgt := 33) hx hb dM_isInside_16 (by decide) (by omega) (by omega) (fun h2 => ?_) (fun h2 => ?_)
    · refine lv_iconst (v := 0) hx hb dM_isInside_33 (by decide) ?_
      exact W.zret (v := 0) hx hb hr (rfl) (fun t ht hW => ⟨congrArg (fun z => Outcome.returned (some (.int z))) (by first | (rw [inB, decide_eq_true h1]; rfl; done) | (rw [inB, decide_eq_false h1, decide_eq_false (Nat.not_lt.mpr h2)]; rfl; done) | (rw [inB, decide_eq_false h1, decide_eq_true h2, ho]; rfl)), ht⟩) (fun q h => nomatch h) dM_isInside_34
    · refine lv_aload_n hx hb dM_isInside_19 rfl (lv_at hl 0 rfl) ?_
      refine va_get (D := (dC, dI)) (ci := 2) (v := .ref (mo 7)) (C := RM) (T := FM) (N := 19) hx hb hta iM hown hK hP 0 rfl rfl 14 (by decide) (hta _ m_506) (fun _ h9 => h9) rfl dM_isInside_20 ?_
      refine lv_iload_n hx hb dM_isInside_23 rfl (lv_at hl 1 rfl) ?_
      refine na_iald hx hb hK hP 7 6 rfl rfl (i := v) (by omega) (by decide) dM_isInside_24 ?_
      refine W.eq (g2 := F0 m 25 ls [.int (enc (M.pl v))]) rfl ?_
      refine lv_iconst (v := (-1)) hx hb dM_isInside_25 (by decide) ?_
      refine en_ne (o := (M.pl v)) (tgt := 33) hx hb dM_isInside_26 (by decide) (fun j h => by have := hpl _ _ h; omega) (fun j_1 ho => ?_) (fun ho => ?_)
      · have hj9 := hpl _ _ ho
        refine lv_iconst (v := 0) hx hb dM_isInside_33 (by decide) ?_
        exact W.zret (v := 0) hx hb hr (rfl) (fun t ht hW => ⟨congrArg (fun z => Outcome.returned (some (.int z))) (by first | (rw [inB, decide_eq_true h1]; rfl; done) | (rw [inB, decide_eq_false h1, decide_eq_false (Nat.not_lt.mpr h2)]; rfl; done) | (rw [inB, decide_eq_false h1, decide_eq_true h2, ho]; rfl)), ht⟩) (fun q h => nomatch h) dM_isInside_34
      · refine lv_iconst (v := 1) hx hb dM_isInside_29 (by decide) ?_
        refine lv_goto (tgt := 34) hx hb dM_isInside_30 (by decide) ?_
        exact W.zret (v := 1) hx hb hr (rfl) (fun t ht hW => ⟨congrArg (fun z => Outcome.returned (some (.int z))) (by first | (rw [inB, decide_eq_true h1]; rfl; done) | (rw [inB, decide_eq_false h1, decide_eq_false (Nat.not_lt.mpr h2)]; rfl; done) | (rw [inB, decide_eq_false h1, decide_eq_true h2, ho]; rfl)), ht⟩) (fun q h => nomatch h) dM_isInside_34

set_option maxHeartbeats 4000000 in
set_option maxRecDepth 100000 in
theorem c_M_sum (l : Launch) (dC : Nat → ClassId) (dI : Nat → Nat → Nat) (mo : Nat → Nat) (km : Nat → ClassId) (M : MS) (r q : Nat) (hpl : ∀ v k, M.pl v = some k → k < 12) (hco : M.co ≤ 12) (hr9 : r < 12) (hq9 : q < 13) : Met l yM_sum wM_sum ({ frames := 0, cells := 0, slots := 0, locals := 0 }) (rPc [.ref (mo 0), .int (nI r), .int (nI q)] (dC, dI) vwCl (MW mo km M) (MK km) xT) (rQ (some (.long (suM M r q)))) 0 0 (fun _ => False) := by
  refine Met.ofW (cc := bM_sum) (maxL := 8) (ret := (some .long)) (by decide) rfl ?_
  intro p e s m args below meth c s₁ B hml hv
  obtain ⟨rfl, hP, hK, hX⟩ := hv
  have hx := B.exec
  have hb := B.bytes
  have hr := B.returns
  have hts := atoms_spec (ws := wM_sum) B.pre
  have hta : ∀ w ∈ AW, w.before _ s = true := fun w h => hts w (List.mem_cons_of_mem _ h)
  have hown : s.vm.findClass RM = some m.cls := findClass_of_methodNamed B.named
  have hlocks := B.notSynchronized
  have hl := lv_entry ([.ref (mo 0), .int (nI r), .int (nI q)]) (n := 8) (Nat.le_of_ble_eq_true rfl)
  rw [lg_entry_eq]
  generalize (lg_sl ([.ref (mo 0), .int (nI r), .int (nI q)]) ++ List.replicate (8 - (lg_sl ([.ref (mo 0), .int (nI r), .int (nI q)])).length) Slot.unset).toArray = ls at hl ⊢
  have hl : lv_has ls 8 [(0, .ref (mo 0)), (1, .int (nI r)), (2, .int (nI q))] := hl
  refine lv_iload_n hx hb dM_sum_0 rfl (lv_at hl 2 rfl) ?_
  refine lv_bipush (v := nI 12) hx hb dM_sum_1 (by decide) ?_
  refine ni_ne (tgt := 21) hx hb dM_sum_3 (by decide) (by omega) (by omega) (fun h0 => ?_) (fun h0 => ?_)
  · have e0 : (if q = 12 then -M.dn * M.ri r else 0) = 0 := if_neg h0
    refine lv_lconst (v := 0) hx hb dM_sum_21 (by decide) ?_
    refine lv_lstore_n (lv' := [(3, .long 0), (0, .ref (mo 0)), (1, .int (nI r)), (2, .int (nI q))]) hx hb dM_sum_22 rfl hl (by decide) rfl (fun ls hl => ?_)
    refine lv_iconst (v := nI 0) hx hb dM_sum_23 (by decide) ?_
    refine lv_istore (lv' := [(5, .int (nI 0)), (3, .long 0), (0, .ref (mo 0)), (1, .int (nI r)), (2, .int (nI q))]) hx hb dM_sum_24 hl (by decide) rfl (fun ls hl => ?_)
    have loop26 : ∀ (n : Nat) (j : Nat) (acc : Int64) (ls : Array Slot), (j + n = M.co) → (suL M r q j n acc = suM M r q) → lv_has ls 8 [(5, .int (nI j)), (3, .long acc), (0, .ref (mo 0)), (1, .int (nI r)), (2, .int (nI q))] → W p l e (headSpec wM_sum ({ frames := 0, cells := 0, slots := 0, locals := 0 })).room s m ([.ref (mo 0), .int (nI r), .int (nI q)] : List Value).toArray below meth c s.heap [] 0 0 (MQ below (rQ (some (.long (suM M r q)))) ([.ref (mo 0), .int (nI r), .int (nI q)] : List Value).toArray s 0 0 (fun _ => False)) (F0 m 26 ls []) := by
      intro n
      induction n with
      | zero =>
        intro j acc ls hn hq hl
        refine lv_iload hx hb dM_sum_26 (lv_at hl 0 rfl) ?_
        refine lv_aload_n hx hb dM_sum_28 rfl (lv_at hl 2 rfl) ?_
        refine va_get (D := (dC, dI)) (ci := 2) (v := .int (nI M.co)) (C := RM) (T := FM) (N := 19) hx hb hta iM hown hK hP 0 rfl rfl 2 (by decide) (hta _ m_494) (fun _ h9 => h9) rfl dM_sum_29 ?_
        refine ni_ge (tgt := 106) hx hb dM_sum_32 (by decide) (by omega) (by omega) (fun c_1 => ?_) (fun c_1 => ?_)
        · refine lv_lload_n hx hb dM_sum_106 rfl (lv_at hl 1 rfl) ?_
          exact W.lret (v := acc) hx hb hr (fun t ht hW => ⟨congrArg (fun z => Outcome.returned (some (.long z))) (by rw [← hq]; rfl), ht⟩) (fun q h => nomatch h) dM_sum_107
        · exfalso; omega
      | succ n ih =>
        intro j acc ls hn hq hl
        refine lv_iload hx hb dM_sum_26 (lv_at hl 0 rfl) ?_
        refine lv_aload_n hx hb dM_sum_28 rfl (lv_at hl 2 rfl) ?_
        refine va_get (D := (dC, dI)) (ci := 2) (v := .int (nI M.co)) (C := RM) (T := FM) (N := 19) hx hb hta iM hown hK hP 0 rfl rfl 2 (by decide) (hta _ m_494) (fun _ h9 => h9) rfl dM_sum_29 ?_
        refine ni_ge (tgt := 106) hx hb dM_sum_32 (by decide) (by omega) (by omega) (fun c_2 => ?_) (fun c_2 => ?_)
        · exfalso; omega
        · refine lv_aload_n hx hb dM_sum_35 rfl (lv_at hl 2 rfl) ?_
          refine va_get (D := (dC, dI)) (ci := 2) (v := .ref (mo 7)) (C := RM) (T := FM) (N := 19) hx hb hta iM hown hK hP 0 rfl rfl 14 (by decide) (hta _ m_506) (fun _ h9 => h9) rfl dM_sum_36 ?_
          refine lv_iload hx hb dM_sum_39 (lv_at hl 0 rfl) ?_
          refine na_iald hx hb hK hP 7 6 rfl rfl (i := j) (by omega) (by decide) dM_sum_41 ?_
          refine W.eq (g2 := F0 m 42 ls [.int (enc (M.pl j))]) rfl ?_
          refine lv_iconst (v := (-1)) hx hb dM_sum_42 (by decide) ?_
          refine en_ne (o := (M.pl j)) (tgt := 61) hx hb dM_sum_43 (by decide) (fun j h => by have := hpl _ _ h; omega) (fun k9 ho => ?_) (fun ho => ?_)
          · have hj9 := hpl _ _ ho
            refine lv_aload_n hx hb dM_sum_61 rfl (lv_at hl 2 rfl) ?_
            refine va_get (D := (dC, dI)) (ci := 2) (v := .ref (mo 7)) (C := RM) (T := FM) (N := 19) hx hb hta iM hown hK hP 0 rfl rfl 14 (by decide) (hta _ m_506) (fun _ h9 => h9) rfl dM_sum_62 ?_
            refine lv_iload hx hb dM_sum_65 (lv_at hl 0 rfl) ?_
            refine na_iald hx hb hK hP 7 6 rfl rfl (i := j) (by omega) (by decide) dM_sum_67 ?_
            refine W.eq (g2 := F0 m 68 ls [.int (enc (M.pl j))]) rfl ?_
            refine st_i (y := nI k9) (by rw [ho]; rfl) ?_
            refine lv_iload_n hx hb dM_sum_68 rfl (lv_at hl 4 rfl) ?_
            refine ni_ne (tgt := 79) hx hb dM_sum_69 (by decide) (by omega) (by omega) (fun h1 => ?_) (fun h1 => ?_)
            · refine lv_lconst (v := 0) hx hb dM_sum_79 (by decide) ?_
              refine lv_lstore (lv' := [(6, .long 0), (5, .int (nI j)), (3, .long acc), (0, .ref (mo 0)), (1, .int (nI r)), (2, .int (nI q))]) hx hb dM_sum_80 hl (by decide) rfl (fun ls hl => ?_)
              refine lv_lload_n hx hb dM_sum_82 rfl (lv_at hl 2 rfl) ?_
              refine lv_aload_n hx hb dM_sum_83 rfl (lv_at hl 3 rfl) ?_
              refine va_get (D := (dC, dI)) (ci := 2) (v := .ref (mo 5)) (C := RM) (T := FM) (N := 19) hx hb hta iM hown hK hP 0 rfl rfl 8 (by decide) (hta _ m_500) (fun _ h9 => h9) rfl dM_sum_84 ?_
              refine lv_bipush (v := nI 12) hx hb dM_sum_87 (by decide) ?_
              refine lv_iload_n hx hb dM_sum_89 rfl (lv_at hl 4 rfl) ?_
              refine lv_imul hx hb dM_sum_90 ?_
              refine st_i (y := nI (12 * r)) (pk_mul _ _) ?_
              refine lv_iload hx hb dM_sum_91 (lv_at hl 1 rfl) ?_
              refine lv_iadd hx hb dM_sum_93 ?_
              refine st_i (y := nI ((12 * r) + j)) (nI_add _ _) ?_
              refine na_lald hx hb hK hP 5 4 rfl rfl (i := ((12 * r) + j)) (by omega) (by decide) dM_sum_94 ?_
              refine lv_lload hx hb dM_sum_95 (lv_at hl 0 rfl) ?_
              refine lv_lmul hx hb dM_sum_97 ?_
              refine lv_ladd hx hb dM_sum_98 ?_
              refine lv_lstore_n (lv' := [(3, .long (acc + ((M.fa ((12 * r) + j)) * 0))), (6, .long 0), (5, .int (nI j)), (0, .ref (mo 0)), (1, .int (nI r)), (2, .int (nI q))]) hx hb dM_sum_99 rfl hl (by decide) rfl (fun ls hl => ?_)
              refine lv_iinc (v := nI (j + 1)) (lv' := [(5, .int (nI (j + 1))), (3, .long (acc + ((M.fa ((12 * r) + j)) * 0))), (6, .long 0), (0, .ref (mo 0)), (1, .int (nI r)), (2, .int (nI q))]) hx hb dM_sum_100 hl (k := 2) rfl (nI_add j 1) (by decide) rfl (fun ls hl => ?_)
              refine lv_goto (tgt := 26) hx hb dM_sum_103 (by decide) ?_
              exact ih (j + 1) (acc + ((M.fa ((12 * r) + j)) * 0)) ls (by omega) (by rw [← hq, suL]; first | (simp [ptR, ho, h1]; done) | simp [ptR, ho]) (lv_sub hl [0, 1, 3, 4, 5] rfl)
            · refine lv_aload_n hx hb dM_sum_72 rfl (lv_at hl 2 rfl) ?_
              refine va_get (D := (dC, dI)) (ci := 2) (v := .long M.dn) (C := RM) (T := FM) (N := 19) hx hb hta iM hown hK hP 0 rfl rfl 13 (by decide) (hta _ m_505) (fun _ h9 => h9) rfl dM_sum_73 ?_
              refine lv_goto (tgt := 80) hx hb dM_sum_76 (by decide) ?_
              refine lv_lstore (lv' := [(6, .long M.dn), (5, .int (nI j)), (3, .long acc), (0, .ref (mo 0)), (1, .int (nI r)), (2, .int (nI q))]) hx hb dM_sum_80 hl (by decide) rfl (fun ls hl => ?_)
              refine lv_lload_n hx hb dM_sum_82 rfl (lv_at hl 2 rfl) ?_
              refine lv_aload_n hx hb dM_sum_83 rfl (lv_at hl 3 rfl) ?_
              refine va_get (D := (dC, dI)) (ci := 2) (v := .ref (mo 5)) (C := RM) (T := FM) (N := 19) hx hb hta iM hown hK hP 0 rfl rfl 8 (by decide) (hta _ m_500) (fun _ h9 => h9) rfl dM_sum_84 ?_
              refine lv_bipush (v := nI 12) hx hb dM_sum_87 (by decide) ?_
              refine lv_iload_n hx hb dM_sum_89 rfl (lv_at hl 4 rfl) ?_
              refine lv_imul hx hb dM_sum_90 ?_
              refine st_i (y := nI (12 * r)) (pk_mul _ _) ?_
              refine lv_iload hx hb dM_sum_91 (lv_at hl 1 rfl) ?_
              refine lv_iadd hx hb dM_sum_93 ?_
              refine st_i (y := nI ((12 * r) + j)) (nI_add _ _) ?_
              refine na_lald hx hb hK hP 5 4 rfl rfl (i := ((12 * r) + j)) (by omega) (by decide) dM_sum_94 ?_
              refine lv_lload hx hb dM_sum_95 (lv_at hl 0 rfl) ?_
              refine lv_lmul hx hb dM_sum_97 ?_
              refine lv_ladd hx hb dM_sum_98 ?_
              refine lv_lstore_n (lv' := [(3, .long (acc + ((M.fa ((12 * r) + j)) * M.dn))), (6, .long M.dn), (5, .int (nI j)), (0, .ref (mo 0)), (1, .int (nI r)), (2, .int (nI q))]) hx hb dM_sum_99 rfl hl (by decide) rfl (fun ls hl => ?_)
              refine lv_iinc (v := nI (j + 1)) (lv' := [(5, .int (nI (j + 1))), (3, .long (acc + ((M.fa ((12 * r) + j)) * M.dn))), (6, .long M.dn), (0, .ref (mo 0)), (1, .int (nI r)), (2, .int (nI q))]) hx hb dM_sum_100 hl (k := 2) rfl (nI_add j 1) (by decide) rfl (fun ls hl => ?_)
              refine lv_goto (tgt := 26) hx hb dM_sum_103 (by decide) ?_
              exact ih (j + 1) (acc + ((M.fa ((12 * r) + j)) * M.dn)) ls (by omega) (by rw [← hq, suL]; first | (simp [ptR, ho, h1]; done) | simp [ptR, ho]) (lv_sub hl [0, 1, 3, 4, 5] rfl)
          · refine lv_aload_n hx hb dM_sum_46 rfl (lv_at hl 2 rfl) ?_
            refine va_get (D := (dC, dI)) (ci := 2) (v := .ref (mo 9)) (C := RM) (T := FM) (N := 19) hx hb hta iM hown hK hP 0 rfl rfl 16 (by decide) (hta _ m_508) (fun _ h9 => h9) rfl dM_sum_47 ?_
            refine lv_bipush (v := nI 13) hx hb dM_sum_50 (by decide) ?_
            refine lv_iload hx hb dM_sum_52 (lv_at hl 0 rfl) ?_
            refine lv_imul hx hb dM_sum_54 ?_
            refine st_i (y := nI (13 * j)) (pk_mul _ _) ?_
            refine lv_iload_n hx hb dM_sum_55 rfl (lv_at hl 4 rfl) ?_
            refine lv_iadd hx hb dM_sum_56 ?_
            refine st_i (y := nI ((13 * j) + q)) (nI_add _ _) ?_
            refine na_lald hx hb hK hP 9 8 rfl rfl (i := ((13 * j) + q)) (by omega) (by decide) dM_sum_57 ?_
            refine lv_goto (tgt := 80) hx hb dM_sum_58 (by decide) ?_
            refine lv_lstore (lv' := [(6, .long (M.ta ((13 * j) + q))), (5, .int (nI j)), (3, .long acc), (0, .ref (mo 0)), (1, .int (nI r)), (2, .int (nI q))]) hx hb dM_sum_80 hl (by decide) rfl (fun ls hl => ?_)
            refine lv_lload_n hx hb dM_sum_82 rfl (lv_at hl 2 rfl) ?_
            refine lv_aload_n hx hb dM_sum_83 rfl (lv_at hl 3 rfl) ?_
            refine va_get (D := (dC, dI)) (ci := 2) (v := .ref (mo 5)) (C := RM) (T := FM) (N := 19) hx hb hta iM hown hK hP 0 rfl rfl 8 (by decide) (hta _ m_500) (fun _ h9 => h9) rfl dM_sum_84 ?_
            refine lv_bipush (v := nI 12) hx hb dM_sum_87 (by decide) ?_
            refine lv_iload_n hx hb dM_sum_89 rfl (lv_at hl 4 rfl) ?_
            refine lv_imul hx hb dM_sum_90 ?_
            refine st_i (y := nI (12 * r)) (pk_mul _ _) ?_
            refine lv_iload hx hb dM_sum_91 (lv_at hl 1 rfl) ?_
            refine lv_iadd hx hb dM_sum_93 ?_
            refine st_i (y := nI ((12 * r) + j)) (nI_add _ _) ?_
            refine na_lald hx hb hK hP 5 4 rfl rfl (i := ((12 * r) + j)) (by omega) (by decide) dM_sum_94 ?_
            refine lv_lload hx hb dM_sum_95 (lv_at hl 0 rfl) ?_
            refine lv_lmul hx hb dM_sum_97 ?_
            refine lv_ladd hx hb dM_sum_98 ?_
            refine lv_lstore_n (lv' := [(3, .long (acc + ((M.fa ((12 * r) + j)) * (M.ta ((13 * j) + q))))), (6, .long (M.ta ((13 * j) + q))), (5, .int (nI j)), (0, .ref (mo 0)), (1, .int (nI r)), (2, .int (nI q))]) hx hb dM_sum_99 rfl hl (by decide) rfl (fun ls hl => ?_)
            refine lv_iinc (v := nI (j + 1)) (lv' := [(5, .int (nI (j + 1))), (3, .long (acc + ((M.fa ((12 * r) + j)) * (M.ta ((13 * j) + q))))), (6, .long (M.ta ((13 * j) + q))), (0, .ref (mo 0)), (1, .int (nI r)), (2, .int (nI q))]) hx hb dM_sum_100 hl (k := 2) rfl (nI_add j 1) (by decide) rfl (fun ls hl => ?_)
            refine lv_goto (tgt := 26) hx hb dM_sum_103 (by decide) ?_
            exact ih (j + 1) (acc + ((M.fa ((12 * r) + j)) * (M.ta ((13 * j) + q)))) ls (by omega) (by rw [← hq, suL]; first | (simp [ptR, ho, h1]; done) | simp [ptR, ho]) (lv_sub hl [0, 1, 3, 4, 5] rfl)
    exact loop26 M.co 0 (0) ls (by omega) (by rw [suM, e0]) (lv_sub hl [0, 1, 2, 3, 4] rfl)
  · have e0 : (if q = 12 then -M.dn * M.ri r else 0) = -M.dn * M.ri r := if_pos h0
    refine lv_aload_n hx hb dM_sum_6 rfl (lv_at hl 0 rfl) ?_
    refine va_get (D := (dC, dI)) (ci := 2) (v := .long M.dn) (C := RM) (T := FM) (N := 19) hx hb hta iM hown hK hP 0 rfl rfl 13 (by decide) (hta _ m_505) (fun _ h9 => h9) rfl dM_sum_7 ?_
    refine lv_lneg hx hb dM_sum_10 ?_
    refine lv_aload_n hx hb dM_sum_11 rfl (lv_at hl 0 rfl) ?_
    refine va_get (D := (dC, dI)) (ci := 2) (v := .ref (mo 4)) (C := RM) (T := FM) (N := 19) hx hb hta iM hown hK hP 0 rfl rfl 7 (by decide) (hta _ m_499) (fun _ h9 => h9) rfl dM_sum_12 ?_
    refine lv_iload_n hx hb dM_sum_15 rfl (lv_at hl 1 rfl) ?_
    refine na_lald hx hb hK hP 4 3 rfl rfl (i := r) (by omega) (by decide) dM_sum_16 ?_
    refine lv_lmul hx hb dM_sum_17 ?_
    refine lv_goto (tgt := 22) hx hb dM_sum_18 (by decide) ?_
    refine lv_lstore_n (lv' := [(3, .long ((-M.dn) * (M.ri r))), (0, .ref (mo 0)), (1, .int (nI r)), (2, .int (nI q))]) hx hb dM_sum_22 rfl hl (by decide) rfl (fun ls hl => ?_)
    refine lv_iconst (v := nI 0) hx hb dM_sum_23 (by decide) ?_
    refine lv_istore (lv' := [(5, .int (nI 0)), (3, .long ((-M.dn) * (M.ri r))), (0, .ref (mo 0)), (1, .int (nI r)), (2, .int (nI q))]) hx hb dM_sum_24 hl (by decide) rfl (fun ls hl => ?_)
    have loop26 : ∀ (n : Nat) (j : Nat) (acc : Int64) (ls : Array Slot), (j + n = M.co) → (suL M r q j n acc = suM M r q) → lv_has ls 8 [(5, .int (nI j)), (3, .long acc), (0, .ref (mo 0)), (1, .int (nI r)), (2, .int (nI q))] → W p l e (headSpec wM_sum ({ frames := 0, cells := 0, slots := 0, locals := 0 })).room s m ([.ref (mo 0), .int (nI r), .int (nI q)] : List Value).toArray below meth c s.heap [] 0 0 (MQ below (rQ (some (.long (suM M r q)))) ([.ref (mo 0), .int (nI r), .int (nI q)] : List Value).toArray s 0 0 (fun _ => False)) (F0 m 26 ls []) := by
      intro n
      induction n with
      | zero =>
        intro j acc ls hn hq hl
        refine lv_iload hx hb dM_sum_26 (lv_at hl 0 rfl) ?_
        refine lv_aload_n hx hb dM_sum_28 rfl (lv_at hl 2 rfl) ?_
        refine va_get (D := (dC, dI)) (ci := 2) (v := .int (nI M.co)) (C := RM) (T := FM) (N := 19) hx hb hta iM hown hK hP 0 rfl rfl 2 (by decide) (hta _ m_494) (fun _ h9 => h9) rfl dM_sum_29 ?_
        refine ni_ge (tgt := 106) hx hb dM_sum_32 (by decide) (by omega) (by omega) (fun c_3 => ?_) (fun c_3 => ?_)
        · refine lv_lload_n hx hb dM_sum_106 rfl (lv_at hl 1 rfl) ?_
          exact W.lret (v := acc) hx hb hr (fun t ht hW => ⟨congrArg (fun z => Outcome.returned (some (.long z))) (by rw [← hq]; rfl), ht⟩) (fun q h => nomatch h) dM_sum_107
        · exfalso; omega
      | succ n ih =>
        intro j acc ls hn hq hl
        refine lv_iload hx hb dM_sum_26 (lv_at hl 0 rfl) ?_
        refine lv_aload_n hx hb dM_sum_28 rfl (lv_at hl 2 rfl) ?_
        refine va_get (D := (dC, dI)) (ci := 2) (v := .int (nI M.co)) (C := RM) (T := FM) (N := 19) hx hb hta iM hown hK hP 0 rfl rfl 2 (by decide) (hta _ m_494) (fun _ h9 => h9) rfl dM_sum_29 ?_
        refine ni_ge (tgt := 106) hx hb dM_sum_32 (by decide) (by omega) (by omega) (fun c_4 => ?_) (fun c_4 => ?_)
        · exfalso; omega
        · refine lv_aload_n hx hb dM_sum_35 rfl (lv_at hl 2 rfl) ?_
          refine va_get (D := (dC, dI)) (ci := 2) (v := .ref (mo 7)) (C := RM) (T := FM) (N := 19) hx hb hta iM hown hK hP 0 rfl rfl 14 (by decide) (hta _ m_506) (fun _ h9 => h9) rfl dM_sum_36 ?_
          refine lv_iload hx hb dM_sum_39 (lv_at hl 0 rfl) ?_
          refine na_iald hx hb hK hP 7 6 rfl rfl (i := j) (by omega) (by decide) dM_sum_41 ?_
          refine W.eq (g2 := F0 m 42 ls [.int (enc (M.pl j))]) rfl ?_
          refine lv_iconst (v := (-1)) hx hb dM_sum_42 (by decide) ?_
          refine en_ne (o := (M.pl j)) (tgt := 61) hx hb dM_sum_43 (by decide) (fun j h => by have := hpl _ _ h; omega) (fun k9 ho => ?_) (fun ho => ?_)
          · have hj9 := hpl _ _ ho
            refine lv_aload_n hx hb dM_sum_61 rfl (lv_at hl 2 rfl) ?_
            refine va_get (D := (dC, dI)) (ci := 2) (v := .ref (mo 7)) (C := RM) (T := FM) (N := 19) hx hb hta iM hown hK hP 0 rfl rfl 14 (by decide) (hta _ m_506) (fun _ h9 => h9) rfl dM_sum_62 ?_
            refine lv_iload hx hb dM_sum_65 (lv_at hl 0 rfl) ?_
            refine na_iald hx hb hK hP 7 6 rfl rfl (i := j) (by omega) (by decide) dM_sum_67 ?_
            refine W.eq (g2 := F0 m 68 ls [.int (enc (M.pl j))]) rfl ?_
            refine st_i (y := nI k9) (by rw [ho]; rfl) ?_
            refine lv_iload_n hx hb dM_sum_68 rfl (lv_at hl 4 rfl) ?_
            refine ni_ne (tgt := 79) hx hb dM_sum_69 (by decide) (by omega) (by omega) (fun h1 => ?_) (fun h1 => ?_)
            · refine lv_lconst (v := 0) hx hb dM_sum_79 (by decide) ?_
              refine lv_lstore (lv' := [(6, .long 0), (5, .int (nI j)), (3, .long acc), (0, .ref (mo 0)), (1, .int (nI r)), (2, .int (nI q))]) hx hb dM_sum_80 hl (by decide) rfl (fun ls hl => ?_)
              refine lv_lload_n hx hb dM_sum_82 rfl (lv_at hl 2 rfl) ?_
              refine lv_aload_n hx hb dM_sum_83 rfl (lv_at hl 3 rfl) ?_
              refine va_get (D := (dC, dI)) (ci := 2) (v := .ref (mo 5)) (C := RM) (T := FM) (N := 19) hx hb hta iM hown hK hP 0 rfl rfl 8 (by decide) (hta _ m_500) (fun _ h9 => h9) rfl dM_sum_84 ?_
              refine lv_bipush (v := nI 12) hx hb dM_sum_87 (by decide) ?_
              refine lv_iload_n hx hb dM_sum_89 rfl (lv_at hl 4 rfl) ?_
              refine lv_imul hx hb dM_sum_90 ?_
              refine st_i (y := nI (12 * r)) (pk_mul _ _) ?_
              refine lv_iload hx hb dM_sum_91 (lv_at hl 1 rfl) ?_
              refine lv_iadd hx hb dM_sum_93 ?_
              refine st_i (y := nI ((12 * r) + j)) (nI_add _ _) ?_
              refine na_lald hx hb hK hP 5 4 rfl rfl (i := ((12 * r) + j)) (by omega) (by decide) dM_sum_94 ?_
              refine lv_lload hx hb dM_sum_95 (lv_at hl 0 rfl) ?_
              refine lv_lmul hx hb dM_sum_97 ?_
              refine lv_ladd hx hb dM_sum_98 ?_
              refine lv_lstore_n (lv' := [(3, .long (acc + ((M.fa ((12 * r) + j)) * 0))), (6, .long 0), (5, .int (nI j)), (0, .ref (mo 0)), (1, .int (nI r)), (2, .int (nI q))]) hx hb dM_sum_99 rfl hl (by decide) rfl (fun ls hl => ?_)
              refine lv_iinc (v := nI (j + 1)) (lv' := [(5, .int (nI (j + 1))), (3, .long (acc + ((M.fa ((12 * r) + j)) * 0))), (6, .long 0), (0, .ref (mo 0)), (1, .int (nI r)), (2, .int (nI q))]) hx hb dM_sum_100 hl (k := 2) rfl (nI_add j 1) (by decide) rfl (fun ls hl => ?_)
              refine lv_goto (tgt := 26) hx hb dM_sum_103 (by decide) ?_
              exact ih (j + 1) (acc + ((M.fa ((12 * r) + j)) * 0)) ls (by omega) (by rw [← hq, suL]; first | (simp [ptR, ho, h1]; done) | simp [ptR, ho]) (lv_sub hl [0, 1, 3, 4, 5] rfl)
            · refine lv_aload_n hx hb dM_sum_72 rfl (lv_at hl 2 rfl) ?_
              refine va_get (D := (dC, dI)) (ci := 2) (v := .long M.dn) (C := RM) (T := FM) (N := 19) hx hb hta iM hown hK hP 0 rfl rfl 13 (by decide) (hta _ m_505) (fun _ h9 => h9) rfl dM_sum_73 ?_
              refine lv_goto (tgt := 80) hx hb dM_sum_76 (by decide) ?_
              refine lv_lstore (lv' := [(6, .long M.dn), (5, .int (nI j)), (3, .long acc), (0, .ref (mo 0)), (1, .int (nI r)), (2, .int (nI q))]) hx hb dM_sum_80 hl (by decide) rfl (fun ls hl => ?_)
              refine lv_lload_n hx hb dM_sum_82 rfl (lv_at hl 2 rfl) ?_
              refine lv_aload_n hx hb dM_sum_83 rfl (lv_at hl 3 rfl) ?_
              refine va_get (D := (dC, dI)) (ci := 2) (v := .ref (mo 5)) (C := RM) (T := FM) (N := 19) hx hb hta iM hown hK hP 0 rfl rfl 8 (by decide) (hta _ m_500) (fun _ h9 => h9) rfl dM_sum_84 ?_
              refine lv_bipush (v := nI 12) hx hb dM_sum_87 (by decide) ?_
              refine lv_iload_n hx hb dM_sum_89 rfl (lv_at hl 4 rfl) ?_
              refine lv_imul hx hb dM_sum_90 ?_
              refine st_i (y := nI (12 * r)) (pk_mul _ _) ?_
              refine lv_iload hx hb dM_sum_91 (lv_at hl 1 rfl) ?_
              refine lv_iadd hx hb dM_sum_93 ?_
              refine st_i (y := nI ((12 * r) + j)) (nI_add _ _) ?_
              refine na_lald hx hb hK hP 5 4 rfl rfl (i := ((12 * r) + j)) (by omega) (by decide) dM_sum_94 ?_
              refine lv_lload hx hb dM_sum_95 (lv_at hl 0 rfl) ?_
              refine lv_lmul hx hb dM_sum_97 ?_
              refine lv_ladd hx hb dM_sum_98 ?_
              refine lv_lstore_n (lv' := [(3, .long (acc + ((M.fa ((12 * r) + j)) * M.dn))), (6, .long M.dn), (5, .int (nI j)), (0, .ref (mo 0)), (1, .int (nI r)), (2, .int (nI q))]) hx hb dM_sum_99 rfl hl (by decide) rfl (fun ls hl => ?_)
              refine lv_iinc (v := nI (j + 1)) (lv' := [(5, .int (nI (j + 1))), (3, .long (acc + ((M.fa ((12 * r) + j)) * M.dn))), (6, .long M.dn), (0, .ref (mo 0)), (1, .int (nI r)), (2, .int (nI q))]) hx hb dM_sum_100 hl (k := 2) rfl (nI_add j 1) (by decide) rfl (fun ls hl => ?_)
              refine lv_goto (tgt := 26) hx hb dM_sum_103 (by decide) ?_
              exact ih (j + 1) (acc + ((M.fa ((12 * r) + j)) * M.dn)) ls (by omega) (by rw [← hq, suL]; first | (simp [ptR, ho, h1]; done) | simp [ptR, ho]) (lv_sub hl [0, 1, 3, 4, 5] rfl)
          · refine lv_aload_n hx hb dM_sum_46 rfl (lv_at hl 2 rfl) ?_
            refine va_get (D := (dC, dI)) (ci := 2) (v := .ref (mo 9)) (C := RM) (T := FM) (N := 19) hx hb hta iM hown hK hP 0 rfl rfl 16 (by decide) (hta _ m_508) (fun _ h9 => h9) rfl dM_sum_47 ?_
            refine lv_bipush (v := nI 13) hx hb dM_sum_50 (by decide) ?_
            refine lv_iload hx hb dM_sum_52 (lv_at hl 0 rfl) ?_
            refine lv_imul hx hb dM_sum_54 ?_
            refine st_i (y := nI (13 * j)) (pk_mul _ _) ?_
            refine lv_iload_n hx hb dM_sum_55 rfl (lv_at hl 4 rfl) ?_
            refine lv_iadd hx hb dM_sum_56 ?_
            refine st_i (y := nI ((13 * j) + q)) (nI_add _ _) ?_
            refine na_lald hx hb hK hP 9 8 rfl rfl (i := ((13 * j) + q)) (by omega) (by decide) dM_sum_57 ?_
            refine lv_goto (tgt := 80) hx hb dM_sum_58 (by decide) ?_
            refine lv_lstore (lv' := [(6, .long (M.ta ((13 * j) + q))), (5, .int (nI j)), (3, .long acc), (0, .ref (mo 0)), (1, .int (nI r)), (2, .int (nI q))]) hx hb dM_sum_80 hl (by decide) rfl (fun ls hl => ?_)
            refine lv_lload_n hx hb dM_sum_82 rfl (lv_at hl 2 rfl) ?_
            refine lv_aload_n hx hb dM_sum_83 rfl (lv_at hl 3 rfl) ?_
            refine va_get (D := (dC, dI)) (ci := 2) (v := .ref (mo 5)) (C := RM) (T := FM) (N := 19) hx hb hta iM hown hK hP 0 rfl rfl 8 (by decide) (hta _ m_500) (fun _ h9 => h9) rfl dM_sum_84 ?_
            refine lv_bipush (v := nI 12) hx hb dM_sum_87 (by decide) ?_
            refine lv_iload_n hx hb dM_sum_89 rfl (lv_at hl 4 rfl) ?_
            refine lv_imul hx hb dM_sum_90 ?_
            refine st_i (y := nI (12 * r)) (pk_mul _ _) ?_
            refine lv_iload hx hb dM_sum_91 (lv_at hl 1 rfl) ?_
            refine lv_iadd hx hb dM_sum_93 ?_
            refine st_i (y := nI ((12 * r) + j)) (nI_add _ _) ?_
            refine na_lald hx hb hK hP 5 4 rfl rfl (i := ((12 * r) + j)) (by omega) (by decide) dM_sum_94 ?_
            refine lv_lload hx hb dM_sum_95 (lv_at hl 0 rfl) ?_
            refine lv_lmul hx hb dM_sum_97 ?_
            refine lv_ladd hx hb dM_sum_98 ?_
            refine lv_lstore_n (lv' := [(3, .long (acc + ((M.fa ((12 * r) + j)) * (M.ta ((13 * j) + q))))), (6, .long (M.ta ((13 * j) + q))), (5, .int (nI j)), (0, .ref (mo 0)), (1, .int (nI r)), (2, .int (nI q))]) hx hb dM_sum_99 rfl hl (by decide) rfl (fun ls hl => ?_)
            refine lv_iinc (v := nI (j + 1)) (lv' := [(5, .int (nI (j + 1))), (3, .long (acc + ((M.fa ((12 * r) + j)) * (M.ta ((13 * j) + q))))), (6, .long (M.ta ((13 * j) + q))), (0, .ref (mo 0)), (1, .int (nI r)), (2, .int (nI q))]) hx hb dM_sum_100 hl (k := 2) rfl (nI_add j 1) (by decide) rfl (fun ls hl => ?_)
            refine lv_goto (tgt := 26) hx hb dM_sum_103 (by decide) ?_
            exact ih (j + 1) (acc + ((M.fa ((12 * r) + j)) * (M.ta ((13 * j) + q)))) ls (by omega) (by rw [← hq, suL]; first | (simp [ptR, ho, h1]; done) | simp [ptR, ho]) (lv_sub hl [0, 1, 3, 4, 5] rfl)
    exact loop26 M.co 0 ((-M.dn) * (M.ri r)) ls (by omega) (by rw [suM, e0]) (lv_sub hl [0, 1, 2, 3, 4] rfl)

set_option maxHeartbeats 4000000 in
set_option maxRecDepth 100000 in
theorem c_M_leaving (l : Launch) (dC : Nat → ClassId) (dI : Nat → Nat → Nat) (mo : Nat → Nat) (km : Nat → ClassId) (M : MS)  (hcl : M.co + M.ln ≤ 36) (hpl : ∀ v k, M.pl v = some k → k < 12) : Met l yM_leaving wM_leaving ({ frames := 0, cells := 0, slots := 0, locals := 0 }) (rPc [.ref (mo 0)] (dC, dI) vwCl (MW mo km M) (MK km) xT) (rQ (some (.int (enc (lvR M 0 (M.co + M.ln)))))) 0 0 (fun _ => False) := by
  refine Met.ofW (cc := bM_leaving) (maxL := 2) (ret := (some .int)) (by decide) rfl ?_
  intro p e s m args below meth c s₁ B hml hv
  obtain ⟨rfl, hP, hK, hX⟩ := hv
  have hx := B.exec
  have hb := B.bytes
  have hr := B.returns
  have hts := atoms_spec (ws := wM_leaving) B.pre
  have hta : ∀ w ∈ AW, w.before _ s = true := fun w h => hts w (List.mem_cons_of_mem _ h)
  have hown : s.vm.findClass RM = some m.cls := findClass_of_methodNamed B.named
  have hlocks := B.notSynchronized
  have hl := lv_entry ([.ref (mo 0)]) (n := 2) (Nat.le_of_ble_eq_true rfl)
  rw [lg_entry_eq]
  generalize (lg_sl ([.ref (mo 0)]) ++ List.replicate (2 - (lg_sl ([.ref (mo 0)])).length) Slot.unset).toArray = ls at hl ⊢
  have hl : lv_has ls 2 [(0, .ref (mo 0))] := hl
  refine lv_iconst (v := nI 0) hx hb dM_leaving_0 (by decide) ?_
  refine lv_istore_n (lv' := [(1, .int (nI 0)), (0, .ref (mo 0))]) hx hb dM_leaving_1 rfl hl (by decide) rfl (fun ls hl => ?_)
  have loop2 : ∀ (n : Nat) (i : Nat) (ls : Array Slot), (i + n = M.co + M.ln) → (lvR M i n = lvR M 0 (M.co + M.ln)) → lv_has ls 2 [(1, .int (nI i)), (0, .ref (mo 0))] → W p l e (headSpec wM_leaving ({ frames := 0, cells := 0, slots := 0, locals := 0 })).room s m ([.ref (mo 0)] : List Value).toArray below meth c s.heap [] 0 0 (MQ below (rQ (some (.int (enc (lvR M 0 (M.co + M.ln)))))) ([.ref (mo 0)] : List Value).toArray s 0 0 (fun _ => False)) (F0 m 2 ls []) := by
    intro n
    induction n with
    | zero =>
      intro i ls hn hq hl
      refine lv_iload_n hx hb dM_leaving_2 rfl (lv_at hl 0 rfl) ?_
      refine lv_aload_n hx hb dM_leaving_3 rfl (lv_at hl 1 rfl) ?_
      refine va_get (D := (dC, dI)) (ci := 2) (v := .int (nI M.co)) (C := RM) (T := FM) (N := 19) hx hb hta iM hown hK hP 0 rfl rfl 2 (by decide) (hta _ m_494) (fun _ h9 => h9) rfl dM_leaving_4 ?_
      refine lv_aload_n hx hb dM_leaving_7 rfl (lv_at hl 1 rfl) ?_
      refine va_get (D := (dC, dI)) (ci := 2) (v := .int (nI M.ln)) (C := RM) (T := FM) (N := 19) hx hb hta iM hown hK hP 0 rfl rfl 10 (by decide) (hta _ m_502) (fun _ h9 => h9) rfl dM_leaving_8 ?_
      refine lv_iadd hx hb dM_leaving_11 ?_
      refine st_i (y := nI (M.co + M.ln)) (nI_add _ _) ?_
      refine ni_ge (tgt := 50) hx hb dM_leaving_12 (by decide) (by omega) (by omega) (fun c_1 => ?_) (fun c_1 => ?_)
      · refine lv_iconst (v := (-1)) hx hb dM_leaving_50 (by decide) ?_
        exact W.iret (v := (-1)) hx hb hr (fun t ht hW => ⟨congrArg (fun z => Outcome.returned (some (.int z))) (by rw [← hq]; rfl), ht⟩) (fun q h => nomatch h) dM_leaving_51
      · exfalso; omega
    | succ n ih =>
      intro i ls hn hq hl
      refine lv_iload_n hx hb dM_leaving_2 rfl (lv_at hl 0 rfl) ?_
      refine lv_aload_n hx hb dM_leaving_3 rfl (lv_at hl 1 rfl) ?_
      refine va_get (D := (dC, dI)) (ci := 2) (v := .int (nI M.co)) (C := RM) (T := FM) (N := 19) hx hb hta iM hown hK hP 0 rfl rfl 2 (by decide) (hta _ m_494) (fun _ h9 => h9) rfl dM_leaving_4 ?_
      refine lv_aload_n hx hb dM_leaving_7 rfl (lv_at hl 1 rfl) ?_
      refine va_get (D := (dC, dI)) (ci := 2) (v := .int (nI M.ln)) (C := RM) (T := FM) (N := 19) hx hb hta iM hown hK hP 0 rfl rfl 10 (by decide) (hta _ m_502) (fun _ h9 => h9) rfl dM_leaving_8 ?_
      refine lv_iadd hx hb dM_leaving_11 ?_
      refine st_i (y := nI (M.co + M.ln)) (nI_add _ _) ?_
      refine ni_ge (tgt := 50) hx hb dM_leaving_12 (by decide) (by omega) (by omega) (fun c_2 => ?_) (fun c_2 => ?_)
      · exfalso; omega
      · refine lv_aload_n hx hb dM_leaving_15 rfl (lv_at hl 1 rfl) ?_
        refine va_get (D := (dC, dI)) (ci := 2) (v := .ref (mo 7)) (C := RM) (T := FM) (N := 19) hx hb hta iM hown hK hP 0 rfl rfl 14 (by decide) (hta _ m_506) (fun _ h9 => h9) rfl dM_leaving_16 ?_
        refine lv_iload_n hx hb dM_leaving_19 rfl (lv_at hl 0 rfl) ?_
        refine na_iald hx hb hK hP 7 6 rfl rfl (i := i) (by omega) (by decide) dM_leaving_20 ?_
        refine W.eq (g2 := F0 m 21 ls [.int (enc (M.pl i))]) rfl ?_
        refine lv_iconst (v := (-1)) hx hb dM_leaving_21 (by decide) ?_
        refine en_ne (o := (M.pl i)) (tgt := 44) hx hb dM_leaving_22 (by decide) (fun j h => by have := hpl _ _ h; omega) (fun j_3 ho => ?_) (fun ho => ?_)
        · have hj9 := hpl _ _ ho
          refine lv_iinc (v := nI (i + 1)) (lv' := [(1, .int (nI (i + 1))), (0, .ref (mo 0))]) hx hb dM_leaving_44 hl (k := 0) rfl (nI_add i 1) (by decide) rfl (fun ls hl => ?_)
          refine lv_goto (tgt := 2) hx hb dM_leaving_47 (by decide) ?_
          exact ih (i + 1) ls (by omega) (by rw [← hq, lvR]; first | (rw [if_neg (fun z => h1 z.2)]; done) | (rw [if_neg (fun z => by rw [ho] at z; exact nomatch z.1)])) (lv_sub hl [0, 1] rfl)
        · refine lv_aload_n hx hb dM_leaving_25 rfl (lv_at hl 1 rfl) ?_
          refine va_get (D := (dC, dI)) (ci := 2) (v := .ref (mo 9)) (C := RM) (T := FM) (N := 19) hx hb hta iM hown hK hP 0 rfl rfl 16 (by decide) (hta _ m_508) (fun _ h9 => h9) rfl dM_leaving_26 ?_
          refine lv_bipush (v := nI 13) hx hb dM_leaving_29 (by decide) ?_
          refine lv_iload_n hx hb dM_leaving_31 rfl (lv_at hl 0 rfl) ?_
          refine lv_imul hx hb dM_leaving_32 ?_
          refine st_i (y := nI (13 * i)) (pk_mul _ _) ?_
          refine lv_bipush (v := nI 12) hx hb dM_leaving_33 (by decide) ?_
          refine lv_iadd hx hb dM_leaving_35 ?_
          refine st_i (y := nI ((13 * i) + 12)) (nI_add _ _) ?_
          refine na_lald hx hb hK hP 9 8 rfl rfl (i := ((13 * i) + 12)) (by omega) (by decide) dM_leaving_36 ?_
          refine lv_lconst (v := 0) hx hb dM_leaving_37 (by decide) ?_
          refine ll_ge (tgt := 44) hx hb dM_leaving_38 dM_leaving_39 (by decide) (fun h1 => ?_) (fun h1 => ?_)
          · refine lv_iinc (v := nI (i + 1)) (lv' := [(1, .int (nI (i + 1))), (0, .ref (mo 0))]) hx hb dM_leaving_44 hl (k := 0) rfl (nI_add i 1) (by decide) rfl (fun ls hl => ?_)
            refine lv_goto (tgt := 2) hx hb dM_leaving_47 (by decide) ?_
            exact ih (i + 1) ls (by omega) (by rw [← hq, lvR]; first | (rw [if_neg (fun z => h1 z.2)]; done) | (rw [if_neg (fun z => by rw [ho] at z; exact nomatch z.1)])) (lv_sub hl [0, 1] rfl)
          · refine lv_iload_n hx hb dM_leaving_42 rfl (lv_at hl 0 rfl) ?_
            exact W.iret (v := nI i) hx hb hr (fun t ht hW => ⟨congrArg (fun z => Outcome.returned (some (.int z))) (by rw [← hq, lvR, if_pos ⟨ho, h1⟩]; rfl), ht⟩) (fun q h => nomatch h) dM_leaving_43
  exact loop2 (M.co + M.ln) 0 ls (by omega) rfl (lv_sub hl [0, 1] rfl)

set_option maxHeartbeats 4000000 in
set_option maxRecDepth 100000 in
theorem c_M_entering (l : Launch) (dC : Nat → ClassId) (dI : Nat → Nat → Nat) (mo : Nat → Nat) (km : Nat → ClassId) (M : MS) (le : Nat) (hco : M.co ≤ 12) (hle : le < 37) (hou : ∀ k, M.ou k < 36) : Met l yM_entering wM_entering ({ frames := 0, cells := 0, slots := 0, locals := 0 }) (rPc [.ref (mo 0), .int (nI le)] (dC, dI) vwCl (MW mo km M) (MK km) xT) (rQ (some (.int (enc (enR M le 0 M.co none))))) 0 0 (fun _ => False) := by
  refine Met.ofW (cc := bM_entering) (maxL := 10) (ret := (some .int)) (by decide) rfl ?_
  intro p e s m args below meth c s₁ B hml hv
  obtain ⟨rfl, hP, hK, hX⟩ := hv
  have hx := B.exec
  have hb := B.bytes
  have hr := B.returns
  have hts := atoms_spec (ws := wM_entering) B.pre
  have hta : ∀ w ∈ AW, w.before _ s = true := fun w h => hts w (List.mem_cons_of_mem _ h)
  have hown : s.vm.findClass RM = some m.cls := findClass_of_methodNamed B.named
  have hlocks := B.notSynchronized
  have hl := lv_entry ([.ref (mo 0), .int (nI le)]) (n := 10) (Nat.le_of_ble_eq_true rfl)
  rw [lg_entry_eq]
  generalize (lg_sl ([.ref (mo 0), .int (nI le)]) ++ List.replicate (10 - (lg_sl ([.ref (mo 0), .int (nI le)])).length) Slot.unset).toArray = ls at hl ⊢
  have hl : lv_has ls 10 [(0, .ref (mo 0)), (1, .int (nI le))] := hl
  refine lv_iconst (v := (-1)) hx hb dM_entering_0 (by decide) ?_
  refine lv_istore_n (lv' := [(2, .int (-1)), (0, .ref (mo 0)), (1, .int (nI le))]) hx hb dM_entering_1 rfl hl (by decide) rfl (fun ls hl => ?_)
  refine lv_iconst (v := nI 0) hx hb dM_entering_2 (by decide) ?_
  refine lv_istore_n (lv' := [(3, .int (nI 0)), (2, .int (-1)), (0, .ref (mo 0)), (1, .int (nI le))]) hx hb dM_entering_3 rfl hl (by decide) rfl (fun ls hl => ?_)
  have loop4 : ∀ (n : Nat) (i : Nat) (b : Option Nat) (ls : Array Slot), (i + n = M.co) → (∀ q, b = some q → q < i) → (enR M le i n b = enR M le 0 M.co none) → lv_has ls 10 [(3, .int (nI i)), (2, .int (enc b)), (0, .ref (mo 0)), (1, .int (nI le))] → W p l e (headSpec wM_entering ({ frames := 0, cells := 0, slots := 0, locals := 0 })).room s m ([.ref (mo 0), .int (nI le)] : List Value).toArray below meth c s.heap [] 0 0 (MQ below (rQ (some (.int (enc (enR M le 0 M.co none))))) ([.ref (mo 0), .int (nI le)] : List Value).toArray s 0 0 (fun _ => False)) (F0 m 4 ls []) := by
    intro n
    induction n with
    | zero =>
      intro i b ls hn hb9 hq hl
      refine lv_iload_n hx hb dM_entering_4 rfl (lv_at hl 0 rfl) ?_
      refine lv_aload_n hx hb dM_entering_5 rfl (lv_at hl 2 rfl) ?_
      refine va_get (D := (dC, dI)) (ci := 2) (v := .int (nI M.co)) (C := RM) (T := FM) (N := 19) hx hb hta iM hown hK hP 0 rfl rfl 2 (by decide) (hta _ m_494) (fun _ h9 => h9) rfl dM_entering_6 ?_
      refine ni_ge (tgt := 134) hx hb dM_entering_9 (by decide) (by omega) (by omega) (fun c_1 => ?_) (fun c_1 => ?_)
      · refine lv_iload_n hx hb dM_entering_134 rfl (lv_at hl 1 rfl) ?_
        exact W.iret (v := enc b) hx hb hr (fun t ht hW => ⟨congrArg (fun z => Outcome.returned (some (.int z))) (by rw [← hq]; rfl), ht⟩) (fun q h => nomatch h) dM_entering_135
      · exfalso; omega
    | succ n ih =>
      intro i b ls hn hb9 hq hl
      refine lv_iload_n hx hb dM_entering_4 rfl (lv_at hl 0 rfl) ?_
      refine lv_aload_n hx hb dM_entering_5 rfl (lv_at hl 2 rfl) ?_
      refine va_get (D := (dC, dI)) (ci := 2) (v := .int (nI M.co)) (C := RM) (T := FM) (N := 19) hx hb hta iM hown hK hP 0 rfl rfl 2 (by decide) (hta _ m_494) (fun _ h9 => h9) rfl dM_entering_6 ?_
      refine ni_ge (tgt := 134) hx hb dM_entering_9 (by decide) (by omega) (by omega) (fun c_2 => ?_) (fun c_2 => ?_)
      · exfalso; omega
      · refine lv_aload_n hx hb dM_entering_12 rfl (lv_at hl 2 rfl) ?_
        refine va_get (D := (dC, dI)) (ci := 2) (v := .ref (mo 9)) (C := RM) (T := FM) (N := 19) hx hb hta iM hown hK hP 0 rfl rfl 16 (by decide) (hta _ m_508) (fun _ h9 => h9) rfl dM_entering_13 ?_
        refine lv_bipush (v := nI 13) hx hb dM_entering_16 (by decide) ?_
        refine lv_iload_n hx hb dM_entering_18 rfl (lv_at hl 3 rfl) ?_
        refine lv_imul hx hb dM_entering_19 ?_
        refine st_i (y := nI (13 * le)) (pk_mul _ _) ?_
        refine lv_iload_n hx hb dM_entering_20 rfl (lv_at hl 0 rfl) ?_
        refine lv_iadd hx hb dM_entering_21 ?_
        refine st_i (y := nI ((13 * le) + i)) (nI_add _ _) ?_
        refine na_lald hx hb hK hP 9 8 rfl rfl (i := ((13 * le) + i)) (by omega) (by decide) dM_entering_22 ?_
        refine lv_lstore (lv' := [(4, .long (M.ta ((13 * le) + i))), (3, .int (nI i)), (2, .int (enc b)), (0, .ref (mo 0)), (1, .int (nI le))]) hx hb dM_entering_23 hl (by decide) rfl (fun ls hl => ?_)
        refine lv_lload hx hb dM_entering_25 (lv_at hl 0 rfl) ?_
        refine lv_lconst (v := 0) hx hb dM_entering_27 (by decide) ?_
        refine ll_le (tgt := 128) hx hb dM_entering_28 dM_entering_29 (by decide) (fun h1 => ?_) (fun h1 => ?_)
        · refine lv_iinc (v := nI (i + 1)) (lv' := [(3, .int (nI (i + 1))), (4, .long (M.ta ((13 * le) + i))), (2, .int (enc b)), (0, .ref (mo 0)), (1, .int (nI le))]) hx hb dM_entering_128 hl (k := 1) rfl (nI_add i 1) (by decide) rfl (fun ls hl => ?_)
          refine lv_goto (tgt := 4) hx hb dM_entering_131 (by decide) ?_
          exact ih (i + 1) b ls (by omega) (fun q h => by have := hb9 q h; omega) (by rw [← hq, enR, show enS M le i b = b from if_neg h1]) (lv_sub hl [0, 2, 3, 4] rfl)
        · refine lv_iload_n hx hb dM_entering_32 rfl (lv_at hl 2 rfl) ?_
          refine lv_iconst (v := (-1)) hx hb dM_entering_33 (by decide) ?_
          refine en_ne (o := b) (tgt := 43) hx hb dM_entering_34 (by decide) (fun j h => by have := hb9 j h; omega) (fun o9 ho => ?_) (fun ho => ?_)
          · rw [ho] at hl
            have hl : lv_has ls 10 [(4, .long (M.ta ((13 * le) + i))), (3, .int (nI i)), (2, .int (nI o9)), (0, .ref (mo 0)), (1, .int (nI le))] := hl
            have hj9 := hb9 _ ho
            refine lv_aload_n hx hb dM_entering_43 rfl (lv_at hl 3 rfl) ?_
            refine va_get (D := (dC, dI)) (ci := 2) (v := .ref (mo 9)) (C := RM) (T := FM) (N := 19) hx hb hta iM hown hK hP 0 rfl rfl 16 (by decide) (hta _ m_508) (fun _ h9 => h9) rfl dM_entering_44 ?_
            refine lv_sipush (v := nI 468) hx hb dM_entering_47 (by decide) ?_
            refine lv_iload_n hx hb dM_entering_50 rfl (lv_at hl 1 rfl) ?_
            refine lv_iadd hx hb dM_entering_51 ?_
            refine st_i (y := nI (468 + i)) (nI_add _ _) ?_
            refine na_lald hx hb hK hP 9 8 rfl rfl (i := (468 + i)) (by omega) (by decide) dM_entering_52 ?_
            refine lv_aload_n hx hb dM_entering_53 rfl (lv_at hl 3 rfl) ?_
            refine va_get (D := (dC, dI)) (ci := 2) (v := .ref (mo 9)) (C := RM) (T := FM) (N := 19) hx hb hta iM hown hK hP 0 rfl rfl 16 (by decide) (hta _ m_508) (fun _ h9 => h9) rfl dM_entering_54 ?_
            refine lv_bipush (v := nI 13) hx hb dM_entering_57 (by decide) ?_
            refine lv_iload_n hx hb dM_entering_59 rfl (lv_at hl 4 rfl) ?_
            refine lv_imul hx hb dM_entering_60 ?_
            refine st_i (y := nI (13 * le)) (pk_mul _ _) ?_
            refine lv_iload_n hx hb dM_entering_61 rfl (lv_at hl 2 rfl) ?_
            refine lv_iadd hx hb dM_entering_62 ?_
            refine st_i (y := nI ((13 * le) + o9)) (nI_add _ _) ?_
            refine na_lald hx hb hK hP 9 8 rfl rfl (i := ((13 * le) + o9)) (by omega) (by decide) dM_entering_63 ?_
            refine lv_lmul hx hb dM_entering_64 ?_
            refine lv_lstore (lv' := [(6, .long ((M.ta (468 + i)) * (M.ta ((13 * le) + o9)))), (4, .long (M.ta ((13 * le) + i))), (3, .int (nI i)), (2, .int (nI o9)), (0, .ref (mo 0)), (1, .int (nI le))]) hx hb dM_entering_65 hl (by decide) rfl (fun ls hl => ?_)
            refine lv_iload_n hx hb dM_entering_67 rfl (lv_at hl 3 rfl) ?_
            refine lv_iconst (v := (-1)) hx hb dM_entering_68 (by decide) ?_
            refine lv_icmp_ne (tgt := 76) hx hb dM_entering_69 (by decide) (fun c_3 => ?_) (fun c_3 => ?_)
            · refine lv_aload_n hx hb dM_entering_76 rfl (lv_at hl 4 rfl) ?_
              refine va_get (D := (dC, dI)) (ci := 2) (v := .ref (mo 9)) (C := RM) (T := FM) (N := 19) hx hb hta iM hown hK hP 0 rfl rfl 16 (by decide) (hta _ m_508) (fun _ h9 => h9) rfl dM_entering_77 ?_
              refine lv_sipush (v := nI 468) hx hb dM_entering_80 (by decide) ?_
              refine lv_iload_n hx hb dM_entering_83 rfl (lv_at hl 3 rfl) ?_
              refine lv_iadd hx hb dM_entering_84 ?_
              refine st_i (y := nI (468 + o9)) (nI_add _ _) ?_
              refine na_lald hx hb hK hP 9 8 rfl rfl (i := (468 + o9)) (by omega) (by decide) dM_entering_85 ?_
              refine lv_lload hx hb dM_entering_86 (lv_at hl 1 rfl) ?_
              refine lv_lmul hx hb dM_entering_88 ?_
              refine lv_lstore (lv' := [(8, .long ((M.ta (468 + o9)) * (M.ta ((13 * le) + i)))), (6, .long ((M.ta (468 + i)) * (M.ta ((13 * le) + o9)))), (4, .long (M.ta ((13 * le) + i))), (3, .int (nI i)), (2, .int (nI o9)), (0, .ref (mo 0)), (1, .int (nI le))]) hx hb dM_entering_89 hl (by decide) rfl (fun ls hl => ?_)
              refine lv_lload hx hb dM_entering_91 (lv_at hl 1 rfl) ?_
              refine lv_lload hx hb dM_entering_93 (lv_at hl 0 rfl) ?_
              refine ll_lt (tgt := 122) hx hb dM_entering_95 dM_entering_96 (by decide) (fun h2 => ?_) (fun h2 => ?_)
              · refine lv_iload_n hx hb dM_entering_122 rfl (lv_at hl 3 rfl) ?_
                refine lv_goto (tgt := 127) hx hb dM_entering_123 (by decide) ?_
                refine lv_istore_n (lv' := [(2, .int (nI i)), (8, .long ((M.ta (468 + o9)) * (M.ta ((13 * le) + i)))), (6, .long ((M.ta (468 + i)) * (M.ta ((13 * le) + o9)))), (4, .long (M.ta ((13 * le) + i))), (3, .int (nI i)), (0, .ref (mo 0)), (1, .int (nI le))]) hx hb dM_entering_127 rfl hl (by decide) rfl (fun ls hl => ?_)
                refine lv_iinc (v := nI (i + 1)) (lv' := [(3, .int (nI (i + 1))), (2, .int (nI i)), (8, .long ((M.ta (468 + o9)) * (M.ta ((13 * le) + i)))), (6, .long ((M.ta (468 + i)) * (M.ta ((13 * le) + o9)))), (4, .long (M.ta ((13 * le) + i))), (0, .ref (mo 0)), (1, .int (nI le))]) hx hb dM_entering_128 hl (k := 4) rfl (nI_add i 1) (by decide) rfl (fun ls hl => ?_)
                refine lv_goto (tgt := 4) hx hb dM_entering_131 (by decide) ?_
                exact ih (i + 1) (some i) ls (by omega) (fun j h => by cases h; omega) (by rw [← hq, enR, show enS M le i b = (some i) by (rw [ho]; unfold enS; rw [if_pos h1] <;> first | rfl | (simp [ebR, h2]; done) | (simp [ebR, h2, h3]; done) | (simp [ebR, h2, h3, h4]; done) | (simp [ebR, h2, h3, Nat.not_lt.mpr h4]; done))]) (lv_sub hl [0, 1, 5, 6] rfl)
              · refine lv_lload hx hb dM_entering_99 (lv_at hl 1 rfl) ?_
                refine lv_lload hx hb dM_entering_101 (lv_at hl 0 rfl) ?_
                refine ll_ne (tgt := 126) hx hb dM_entering_103 dM_entering_104 (by decide) (fun h3 => ?_) (fun h3 => ?_)
                · refine lv_iload_n hx hb dM_entering_126 rfl (lv_at hl 4 rfl) ?_
                  refine lv_istore_n (lv' := [(2, .int (nI o9)), (8, .long ((M.ta (468 + o9)) * (M.ta ((13 * le) + i)))), (6, .long ((M.ta (468 + i)) * (M.ta ((13 * le) + o9)))), (4, .long (M.ta ((13 * le) + i))), (3, .int (nI i)), (0, .ref (mo 0)), (1, .int (nI le))]) hx hb dM_entering_127 rfl hl (by decide) rfl (fun ls hl => ?_)
                  refine lv_iinc (v := nI (i + 1)) (lv' := [(3, .int (nI (i + 1))), (2, .int (nI o9)), (8, .long ((M.ta (468 + o9)) * (M.ta ((13 * le) + i)))), (6, .long ((M.ta (468 + i)) * (M.ta ((13 * le) + o9)))), (4, .long (M.ta ((13 * le) + i))), (0, .ref (mo 0)), (1, .int (nI le))]) hx hb dM_entering_128 hl (k := 4) rfl (nI_add i 1) (by decide) rfl (fun ls hl => ?_)
                  refine lv_goto (tgt := 4) hx hb dM_entering_131 (by decide) ?_
                  exact ih (i + 1) (some o9) ls (by omega) (fun j h => by cases h; omega) (by rw [← hq, enR, show enS M le i b = (some o9) by (rw [ho]; unfold enS; rw [if_pos h1] <;> first | rfl | (simp [ebR, h2]; done) | (simp [ebR, h2, h3]; done) | (simp [ebR, h2, h3, h4]; done) | (simp [ebR, h2, h3, Nat.not_lt.mpr h4]; done))]) (lv_sub hl [0, 1, 5, 6] rfl)
                · refine lv_aload_n hx hb dM_entering_107 rfl (lv_at hl 5 rfl) ?_
                  refine va_get (D := (dC, dI)) (ci := 2) (v := .ref (mo 8)) (C := RM) (T := FM) (N := 19) hx hb hta iM hown hK hP 0 rfl rfl 15 (by decide) (hta _ m_507) (fun _ h9 => h9) rfl dM_entering_108 ?_
                  refine lv_iload_n hx hb dM_entering_111 rfl (lv_at hl 3 rfl) ?_
                  refine na_iald hx hb hK hP 8 7 rfl rfl (i := i) (by omega) (by decide) dM_entering_112 ?_
                  refine W.eq (g2 := F0 m 113 ls [.int (nI (M.ou i))]) rfl ?_
                  refine lv_aload_n hx hb dM_entering_113 rfl (lv_at hl 5 rfl) ?_
                  refine va_get (D := (dC, dI)) (ci := 2) (v := .ref (mo 8)) (C := RM) (T := FM) (N := 19) hx hb hta iM hown hK hP 0 rfl rfl 15 (by decide) (hta _ m_507) (fun _ h9 => h9) rfl dM_entering_114 ?_
                  refine lv_iload_n hx hb dM_entering_117 rfl (lv_at hl 4 rfl) ?_
                  refine na_iald hx hb hK hP 8 7 rfl rfl (i := o9) (by omega) (by decide) dM_entering_118 ?_
                  refine W.eq (g2 := F0 m 119 ls [.int (nI (M.ou o9)), .int (nI (M.ou i))]) rfl ?_
                  refine ni_ge (tgt := 126) hx hb dM_entering_119 (by decide) (by have := hou i; omega) (by have := hou o9; omega) (fun h4 => ?_) (fun h4 => ?_)
                  · refine lv_iload_n hx hb dM_entering_126 rfl (lv_at hl 4 rfl) ?_
                    refine lv_istore_n (lv' := [(2, .int (nI o9)), (8, .long ((M.ta (468 + o9)) * (M.ta ((13 * le) + i)))), (6, .long ((M.ta (468 + i)) * (M.ta ((13 * le) + o9)))), (4, .long (M.ta ((13 * le) + i))), (3, .int (nI i)), (0, .ref (mo 0)), (1, .int (nI le))]) hx hb dM_entering_127 rfl hl (by decide) rfl (fun ls hl => ?_)
                    refine lv_iinc (v := nI (i + 1)) (lv' := [(3, .int (nI (i + 1))), (2, .int (nI o9)), (8, .long ((M.ta (468 + o9)) * (M.ta ((13 * le) + i)))), (6, .long ((M.ta (468 + i)) * (M.ta ((13 * le) + o9)))), (4, .long (M.ta ((13 * le) + i))), (0, .ref (mo 0)), (1, .int (nI le))]) hx hb dM_entering_128 hl (k := 4) rfl (nI_add i 1) (by decide) rfl (fun ls hl => ?_)
                    refine lv_goto (tgt := 4) hx hb dM_entering_131 (by decide) ?_
                    exact ih (i + 1) (some o9) ls (by omega) (fun j h => by cases h; omega) (by rw [← hq, enR, show enS M le i b = (some o9) by (rw [ho]; unfold enS; rw [if_pos h1] <;> first | rfl | (simp [ebR, h2]; done) | (simp [ebR, h2, h3]; done) | (simp [ebR, h2, h3, h4]; done) | (simp [ebR, h2, h3, Nat.not_lt.mpr h4]; done))]) (lv_sub hl [0, 1, 5, 6] rfl)
                  · refine lv_iload_n hx hb dM_entering_122 rfl (lv_at hl 3 rfl) ?_
                    refine lv_goto (tgt := 127) hx hb dM_entering_123 (by decide) ?_
                    refine lv_istore_n (lv' := [(2, .int (nI i)), (8, .long ((M.ta (468 + o9)) * (M.ta ((13 * le) + i)))), (6, .long ((M.ta (468 + i)) * (M.ta ((13 * le) + o9)))), (4, .long (M.ta ((13 * le) + i))), (3, .int (nI i)), (0, .ref (mo 0)), (1, .int (nI le))]) hx hb dM_entering_127 rfl hl (by decide) rfl (fun ls hl => ?_)
                    refine lv_iinc (v := nI (i + 1)) (lv' := [(3, .int (nI (i + 1))), (2, .int (nI i)), (8, .long ((M.ta (468 + o9)) * (M.ta ((13 * le) + i)))), (6, .long ((M.ta (468 + i)) * (M.ta ((13 * le) + o9)))), (4, .long (M.ta ((13 * le) + i))), (0, .ref (mo 0)), (1, .int (nI le))]) hx hb dM_entering_128 hl (k := 4) rfl (nI_add i 1) (by decide) rfl (fun ls hl => ?_)
                    refine lv_goto (tgt := 4) hx hb dM_entering_131 (by decide) ?_
                    exact ih (i + 1) (some i) ls (by omega) (fun j h => by cases h; omega) (by rw [← hq, enR, show enS M le i b = (some i) by (rw [ho]; unfold enS; rw [if_pos h1] <;> first | rfl | (simp [ebR, h2]; done) | (simp [ebR, h2, h3]; done) | (simp [ebR, h2, h3, h4]; done) | (simp [ebR, h2, h3, Nat.not_lt.mpr h4]; done))]) (lv_sub hl [0, 1, 5, 6] rfl)
            · exact absurd c_3 (enc_some (by omega))
          · rw [ho] at hl
            have hl : lv_has ls 10 [(4, .long (M.ta ((13 * le) + i))), (3, .int (nI i)), (2, .int (-1)), (0, .ref (mo 0)), (1, .int (nI le))] := hl
            refine lv_ldc2 (v := (-1)) hx hb hown (hta _ m_619) dM_entering_37 ?_
            refine lv_goto (tgt := 65) hx hb dM_entering_40 (by decide) ?_
            refine lv_lstore (lv' := [(6, .long (-1)), (4, .long (M.ta ((13 * le) + i))), (3, .int (nI i)), (2, .int (-1)), (0, .ref (mo 0)), (1, .int (nI le))]) hx hb dM_entering_65 hl (by decide) rfl (fun ls hl => ?_)
            refine lv_iload_n hx hb dM_entering_67 rfl (lv_at hl 3 rfl) ?_
            refine lv_iconst (v := (-1)) hx hb dM_entering_68 (by decide) ?_
            refine lv_icmp_ne (tgt := 76) hx hb dM_entering_69 (by decide) (fun c_4 => ?_) (fun c_4 => ?_)
            · exact absurd rfl c_4
            · refine lv_lconst (v := 0) hx hb dM_entering_72 (by decide) ?_
              refine lv_goto (tgt := 89) hx hb dM_entering_73 (by decide) ?_
              refine lv_lstore (lv' := [(8, .long 0), (6, .long (-1)), (4, .long (M.ta ((13 * le) + i))), (3, .int (nI i)), (2, .int (-1)), (0, .ref (mo 0)), (1, .int (nI le))]) hx hb dM_entering_89 hl (by decide) rfl (fun ls hl => ?_)
              refine lv_lload hx hb dM_entering_91 (lv_at hl 1 rfl) ?_
              refine lv_lload hx hb dM_entering_93 (lv_at hl 0 rfl) ?_
              refine ll_lt (tgt := 122) hx hb dM_entering_95 dM_entering_96 (by decide) (fun h2 => ?_) (fun h2 => ?_)
              · refine lv_iload_n hx hb dM_entering_122 rfl (lv_at hl 3 rfl) ?_
                refine lv_goto (tgt := 127) hx hb dM_entering_123 (by decide) ?_
                refine lv_istore_n (lv' := [(2, .int (nI i)), (8, .long 0), (6, .long (-1)), (4, .long (M.ta ((13 * le) + i))), (3, .int (nI i)), (0, .ref (mo 0)), (1, .int (nI le))]) hx hb dM_entering_127 rfl hl (by decide) rfl (fun ls hl => ?_)
                refine lv_iinc (v := nI (i + 1)) (lv' := [(3, .int (nI (i + 1))), (2, .int (nI i)), (8, .long 0), (6, .long (-1)), (4, .long (M.ta ((13 * le) + i))), (0, .ref (mo 0)), (1, .int (nI le))]) hx hb dM_entering_128 hl (k := 4) rfl (nI_add i 1) (by decide) rfl (fun ls hl => ?_)
                refine lv_goto (tgt := 4) hx hb dM_entering_131 (by decide) ?_
                exact ih (i + 1) (some i) ls (by omega) (fun j h => by cases h; omega) (by rw [← hq, enR, show enS M le i b = (some i) by (rw [ho]; unfold enS; rw [if_pos h1] <;> first | rfl | (simp [ebR, h2]; done) | (simp [ebR, h2, h3]; done) | (simp [ebR, h2, h3, h4]; done) | (simp [ebR, h2, h3, Nat.not_lt.mpr h4]; done))]) (lv_sub hl [0, 1, 5, 6] rfl)
              · exact absurd h2 (by decide)
  exact loop4 M.co 0 none ls (by omega) (fun j h => nomatch h) rfl (lv_sub hl [0, 1, 2, 3] rfl)

set_option maxHeartbeats 4000000 in
set_option maxRecDepth 100000 in
theorem c_M_size (l : Launch) (dC : Nat → ClassId) (dI : Nat → Nat → Nat) (mo : Nat → Nat) (km : Nat → ClassId) (v : Int64)  : Met l yM_size wM_size ({ frames := 0, cells := 0, slots := 0, locals := 0 }) (rPc [.long v] (dC, dI) vwCl ([]) ([]) xT) (rQ (some (.long (szR v)))) 0 0 (fun _ => False) := by
  refine Met.ofW (cc := bM_size) (maxL := 2) (ret := (some .long)) (by decide) rfl ?_
  intro p e s m args below meth c s₁ B hml hv
  obtain ⟨rfl, hP, hK, hX⟩ := hv
  have hx := B.exec
  have hb := B.bytes
  have hr := B.returns
  have hts := atoms_spec (ws := wM_size) B.pre
  have hta : ∀ w ∈ AW, w.before _ s = true := fun w h => hts w (List.mem_cons_of_mem _ h)
  have hown : s.vm.findClass RM = some m.cls := findClass_of_methodNamed B.named
  have hlocks := B.notSynchronized
  have hl := lv_entry ([.long v]) (n := 2) (Nat.le_of_ble_eq_true rfl)
  rw [lg_entry_eq]
  generalize (lg_sl ([.long v]) ++ List.replicate (2 - (lg_sl ([.long v])).length) Slot.unset).toArray = ls at hl ⊢
  have hl : lv_has ls 2 [(0, .long v)] := hl
  refine lv_lload_n hx hb dM_size_0 rfl (lv_at hl 0 rfl) ?_
  refine lv_lconst (v := 0) hx hb dM_size_1 (by decide) ?_
  refine ll_ge (tgt := 11) hx hb dM_size_2 dM_size_3 (by decide) (fun h1 => ?_) (fun h1 => ?_)
  · refine lv_lload_n hx hb dM_size_11 rfl (lv_at hl 0 rfl) ?_
    exact W.lret (v := v) hx hb hr (fun t ht hW => ⟨congrArg (fun z => Outcome.returned (some (.long z))) (by simp only [szR, h1, if_true, if_false]), ht⟩) (fun q h => nomatch h) dM_size_12
  · refine lv_lload_n hx hb dM_size_6 rfl (lv_at hl 0 rfl) ?_
    refine lv_lneg hx hb dM_size_7 ?_
    refine lv_goto (tgt := 12) hx hb dM_size_8 (by decide) ?_
    exact W.lret (v := -v) hx hb hr (fun t ht hW => ⟨congrArg (fun z => Outcome.returned (some (.long z))) (by simp only [szR, h1, if_true, if_false]), ht⟩) (fun q h => nomatch h) dM_size_12

set_option maxHeartbeats 4000000 in
set_option maxRecDepth 100000 in
theorem c_M_fraction (l : Launch) (dC : Nat → ClassId) (dI : Nat → Nat → Nat) (mo : Nat → Nat) (km : Nat → ClassId) (M : MS) (u : Int64) (pt : Int32) (hz : gcZ 100 (szR u) M.dn = true) (hne : ¬ gcL 100 (szR u) M.dn = 0) : Met l yM_fraction wM_fraction ({ frames := 1, cells := 0, slots := 0, locals := 21 }) (rPc [.ref (mo 0), .long u, .int pt] (dC, dI) vwCl (MW mo km M) (MK km) xT) (rQ (some (.long (frR u M.dn pt)))) 0 0 (fun _ => False) := by
  refine Met.ofW (cc := bM_fraction) (maxL := 10) (ret := (some .long)) (by decide) rfl ?_
  intro p e s m args below meth c s₁ B hml hv
  obtain ⟨rfl, hP, hK, hX⟩ := hv
  have hx := B.exec
  have hb := B.bytes
  have hr := B.returns
  have hts := atoms_spec (ws := wM_fraction) B.pre
  have hta : ∀ w ∈ AW, w.before _ s = true := fun w h => hts w (List.mem_cons_of_mem _ h)
  have hown : s.vm.findClass RM = some m.cls := findClass_of_methodNamed B.named
  have hlocks := B.notSynchronized
  have hl := lv_entry ([.ref (mo 0), .long u, .int pt]) (n := 10) (Nat.le_of_ble_eq_true rfl)
  rw [lg_entry_eq]
  generalize (lg_sl ([.ref (mo 0), .long u, .int pt]) ++ List.replicate (10 - (lg_sl ([.ref (mo 0), .long u, .int pt])).length) Slot.unset).toArray = ls at hl ⊢
  have hl : lv_has ls 10 [(0, .ref (mo 0)), (1, .long u), (3, .int pt)] := hl
  refine lv_lload_n hx hb dM_fraction_0 rfl (lv_at hl 1 rfl) ?_
  refine rd_call (va_runS (As := [.long u]) (rest := []) ⟨hx, hb, hml, hown, hta⟩ (c_M_size l dC dI mo km u) (cwS 1 hta (gS m_636 m_637 m_4 m_638) rfl rfl rfl (by decide +kernel) ⟨Nat.le_of_ble_eq_true rfl, Nat.le_of_ble_eq_true rfl⟩) (rd_S xT_ok trivial (hK.sub [] rfl) va_P_nil) rfl rfl hl.1 rfl (lv_room (Nat.le_of_ble_eq_true rfl)) dM_fraction_1 ⟨Nat.zero_le _, Nat.zero_le _⟩) ?_
  refine W.eq (g2 := F0 m 4 ls [.long (szR u)]) rfl ?_
  refine lv_lstore (lv' := [(4, .long (szR u)), (0, .ref (mo 0)), (1, .long u), (3, .int pt)]) hx hb dM_fraction_4 hl (by decide) rfl (fun ls hl => ?_)
  refine lv_aload_n hx hb dM_fraction_6 rfl (lv_at hl 1 rfl) ?_
  refine va_get (D := (dC, dI)) (ci := 2) (v := .long M.dn) (C := RM) (T := FM) (N := 19) hx hb hta iM hown hK hP 0 rfl rfl 13 (by decide) (hta _ m_505) (fun _ h9 => h9) rfl dM_fraction_7 ?_
  refine lv_lstore (lv' := [(6, .long M.dn), (4, .long (szR u)), (0, .ref (mo 0)), (1, .long u), (3, .int pt)]) hx hb dM_fraction_10 hl (by decide) rfl (fun ls hl => ?_)
  have loop12 : ∀ (n : Nat) (x : Int64) (y : Int64) (ls : Array Slot), (gcZ n x y = true) → (gcL n x y = gcL 100 (szR u) M.dn) → lv_has ls 10 [(6, .long y), (4, .long x), (0, .ref (mo 0)), (1, .long u), (3, .int pt)] → W p l e (headSpec wM_fraction ({ frames := 1, cells := 0, slots := 0, locals := 21 })).room s m ([.ref (mo 0), .long u, .int pt] : List Value).toArray below meth c s.heap [] 0 0 (MQ below (rQ (some (.long (frR u M.dn pt)))) ([.ref (mo 0), .long u, .int pt] : List Value).toArray s 0 0 (fun _ => False)) (F0 m 12 ls []) := by
    intro n
    induction n with
    | zero =>
      intro x y ls hz hq hl
      refine lv_lload hx hb dM_fraction_12 (lv_at hl 0 rfl) ?_
      refine lv_lconst (v := 0) hx hb dM_fraction_14 (by decide) ?_
      refine ll_eq (tgt := 37) hx hb dM_fraction_15 dM_fraction_16 (by decide) (fun hc => ?_) (fun hc => ?_)
      · have hx9 : x = gcL 100 (szR u) M.dn := hq
        refine lv_iload_n hx hb dM_fraction_37 rfl (lv_at hl 4 rfl) ?_
        refine lv_if_ne (tgt := 48) hx hb dM_fraction_38 (by decide) (fun h1 => ?_) (fun h1 => ?_)
        · refine lv_aload_n hx hb dM_fraction_48 rfl (lv_at hl 2 rfl) ?_
          refine va_get (D := (dC, dI)) (ci := 2) (v := .long M.dn) (C := RM) (T := FM) (N := 19) hx hb hta iM hown hK hP 0 rfl rfl 13 (by decide) (hta _ m_505) (fun _ h9 => h9) rfl dM_fraction_49 ?_
          refine lv_lload hx hb dM_fraction_52 (lv_at hl 1 rfl) ?_
          refine lv_ldiv hx hb dM_fraction_54 (by rw [hx9]; exact hne) ?_
          exact W.lret (v := M.dn / x) hx hb hr (fun t ht hW => ⟨congrArg (fun z => Outcome.returned (some (.long z))) (by rw [frR, ← hx9]; simp only [h1, if_true, if_false]), ht⟩) (fun q h => nomatch h) dM_fraction_55
        · refine lv_lload_n hx hb dM_fraction_41 rfl (lv_at hl 3 rfl) ?_
          refine lv_lload hx hb dM_fraction_42 (lv_at hl 1 rfl) ?_
          refine lv_ldiv hx hb dM_fraction_44 (by rw [hx9]; exact hne) ?_
          refine lv_goto (tgt := 55) hx hb dM_fraction_45 (by decide) ?_
          exact W.lret (v := u / x) hx hb hr (fun t ht hW => ⟨congrArg (fun z => Outcome.returned (some (.long z))) (by rw [frR, ← hx9]; simp only [h1, if_true, if_false]), ht⟩) (fun q h => nomatch h) dM_fraction_55
      · exact absurd (of_decide_eq_true (show decide (y = 0) = true from hz)) hc
    | succ n ih =>
      intro x y ls hz hq hl
      refine lv_lload hx hb dM_fraction_12 (lv_at hl 0 rfl) ?_
      refine lv_lconst (v := 0) hx hb dM_fraction_14 (by decide) ?_
      refine ll_eq (tgt := 37) hx hb dM_fraction_15 dM_fraction_16 (by decide) (fun hc => ?_) (fun hc => ?_)
      · have hx9 : x = gcL 100 (szR u) M.dn := by rw [← hq, hc, gcL_z]
        refine lv_iload_n hx hb dM_fraction_37 rfl (lv_at hl 4 rfl) ?_
        refine lv_if_ne (tgt := 48) hx hb dM_fraction_38 (by decide) (fun h1 => ?_) (fun h1 => ?_)
        · refine lv_aload_n hx hb dM_fraction_48 rfl (lv_at hl 2 rfl) ?_
          refine va_get (D := (dC, dI)) (ci := 2) (v := .long M.dn) (C := RM) (T := FM) (N := 19) hx hb hta iM hown hK hP 0 rfl rfl 13 (by decide) (hta _ m_505) (fun _ h9 => h9) rfl dM_fraction_49 ?_
          refine lv_lload hx hb dM_fraction_52 (lv_at hl 1 rfl) ?_
          refine lv_ldiv hx hb dM_fraction_54 (by rw [hx9]; exact hne) ?_
          exact W.lret (v := M.dn / x) hx hb hr (fun t ht hW => ⟨congrArg (fun z => Outcome.returned (some (.long z))) (by rw [frR, ← hx9]; simp only [h1, if_true, if_false]), ht⟩) (fun q h => nomatch h) dM_fraction_55
        · refine lv_lload_n hx hb dM_fraction_41 rfl (lv_at hl 3 rfl) ?_
          refine lv_lload hx hb dM_fraction_42 (lv_at hl 1 rfl) ?_
          refine lv_ldiv hx hb dM_fraction_44 (by rw [hx9]; exact hne) ?_
          refine lv_goto (tgt := 55) hx hb dM_fraction_45 (by decide) ?_
          exact W.lret (v := u / x) hx hb hr (fun t ht hW => ⟨congrArg (fun z => Outcome.returned (some (.long z))) (by rw [frR, ← hx9]; simp only [h1, if_true, if_false]), ht⟩) (fun q h => nomatch h) dM_fraction_55
      · refine lv_lload hx hb dM_fraction_19 (lv_at hl 1 rfl) ?_
        refine lv_lload hx hb dM_fraction_21 (lv_at hl 0 rfl) ?_
        refine lv_lrem hx hb dM_fraction_23 (hc) ?_
        refine lv_lstore (lv' := [(8, .long (x - x / y * y)), (6, .long y), (4, .long x), (0, .ref (mo 0)), (1, .long u), (3, .int pt)]) hx hb dM_fraction_24 hl (by decide) rfl (fun ls hl => ?_)
        refine lv_lload hx hb dM_fraction_26 (lv_at hl 1 rfl) ?_
        refine lv_lstore (lv' := [(4, .long y), (8, .long (x - x / y * y)), (6, .long y), (0, .ref (mo 0)), (1, .long u), (3, .int pt)]) hx hb dM_fraction_28 hl (by decide) rfl (fun ls hl => ?_)
        refine lv_lload hx hb dM_fraction_30 (lv_at hl 1 rfl) ?_
        refine lv_lstore (lv' := [(6, .long (x - x / y * y)), (4, .long y), (8, .long (x - x / y * y)), (0, .ref (mo 0)), (1, .long u), (3, .int pt)]) hx hb dM_fraction_32 hl (by decide) rfl (fun ls hl => ?_)
        refine lv_goto (tgt := 12) hx hb dM_fraction_34 (by decide) ?_
        exact ih (y) (x - x / y * y) ls (by rw [gcZ, if_neg hc] at hz; exact hz) (by rw [← hq, gcL, if_neg hc]) (lv_sub hl [0, 1, 3, 4, 5] rfl)
  exact loop12 100 (szR u) M.dn ls hz rfl (lv_sub hl [0, 1, 2, 3, 4] rfl)

set_option maxHeartbeats 4000000 in
set_option maxRecDepth 100000 in
theorem c_M_isPart (l : Launch) (dC : Nat → ClassId) (dI : Nat → Nat → Nat) (mo : Nat → Nat) (km : Nat → ClassId) (M : MS) (pt : Int32)  : Met l yM_isPart wM_isPart ({ frames := 0, cells := 0, slots := 0, locals := 0 }) (rPc [.ref (mo 0), .int pt] (dC, dI) vwCl (MW mo km M) (MK km) xT) (rQ (some (.int (bI (paB pt))))) 0 0 (fun _ => False) := by
  refine Met.ofW (cc := bM_isPart) (maxL := 2) (ret := (some .boolean)) (by decide) rfl ?_
  intro p e s m args below meth c s₁ B hml hv
  obtain ⟨rfl, hP, hK, hX⟩ := hv
  have hx := B.exec
  have hb := B.bytes
  have hr := B.returns
  have hts := atoms_spec (ws := wM_isPart) B.pre
  have hta : ∀ w ∈ AW, w.before _ s = true := fun w h => hts w (List.mem_cons_of_mem _ h)
  have hown : s.vm.findClass RM = some m.cls := findClass_of_methodNamed B.named
  have hlocks := B.notSynchronized
  have hl := lv_entry ([.ref (mo 0), .int pt]) (n := 2) (Nat.le_of_ble_eq_true rfl)
  rw [lg_entry_eq]
  generalize (lg_sl ([.ref (mo 0), .int pt]) ++ List.replicate (2 - (lg_sl ([.ref (mo 0), .int pt])).length) Slot.unset).toArray = ls at hl ⊢
  have hl : lv_has ls 2 [(0, .ref (mo 0)), (1, .int pt)] := hl
  refine lv_iload_n hx hb dM_isPart_0 rfl (lv_at hl 1 rfl) ?_
  refine lv_if_eq (tgt := 9) hx hb dM_isPart_1 (by decide) (fun h1 => ?_) (fun h1 => ?_)
  · refine lv_iconst (v := 1) hx hb dM_isPart_9 (by decide) ?_
    refine lv_goto (tgt := 14) hx hb dM_isPart_10 (by decide) ?_
    exact W.zret (v := 1) hx hb hr (rfl) (fun t ht hW => ⟨congrArg (fun z => Outcome.returned (some (.int z))) (by first | (rw [paB, decide_eq_true h1]; rfl; done) | (rw [paB, decide_eq_false h1, decide_eq_true h2]; rfl; done) | (rw [paB, decide_eq_false h1, decide_eq_false h2]; rfl)), ht⟩) (fun q h => nomatch h) dM_isPart_14
  · refine lv_iload_n hx hb dM_isPart_4 rfl (lv_at hl 1 rfl) ?_
    refine lv_iconst (v := 1) hx hb dM_isPart_5 (by decide) ?_
    refine lv_icmp_ne (tgt := 13) hx hb dM_isPart_6 (by decide) (fun h2 => ?_) (fun h2 => ?_)
    · refine lv_iconst (v := 0) hx hb dM_isPart_13 (by decide) ?_
      exact W.zret (v := 0) hx hb hr (rfl) (fun t ht hW => ⟨congrArg (fun z => Outcome.returned (some (.int z))) (by first | (rw [paB, decide_eq_true h1]; rfl; done) | (rw [paB, decide_eq_false h1, decide_eq_true h2]; rfl; done) | (rw [paB, decide_eq_false h1, decide_eq_false h2]; rfl)), ht⟩) (fun q h => nomatch h) dM_isPart_14
    · refine lv_iconst (v := 1) hx hb dM_isPart_9 (by decide) ?_
      refine lv_goto (tgt := 14) hx hb dM_isPart_10 (by decide) ?_
      exact W.zret (v := 1) hx hb hr (rfl) (fun t ht hW => ⟨congrArg (fun z => Outcome.returned (some (.int z))) (by first | (rw [paB, decide_eq_true h1]; rfl; done) | (rw [paB, decide_eq_false h1, decide_eq_true h2]; rfl; done) | (rw [paB, decide_eq_false h1, decide_eq_false h2]; rfl)), ht⟩) (fun q h => nomatch h) dM_isPart_14

set_option maxHeartbeats 4000000 in
set_option maxRecDepth 100000 in
theorem c_M_amount (l : Launch) (dC : Nat → ClassId) (dI : Nat → Nat → Nat) (mo : Nat → Nat) (km : Nat → ClassId) (M : MS) (q : Nat) (hpl : ∀ v k, M.pl v = some k → k < 12) (hq9 : q < 37) : Met l yM_amount wM_amount ({ frames := 0, cells := 0, slots := 0, locals := 0 }) (rPc [.ref (mo 0), .int (nI q)] (dC, dI) vwCl (MW mo km M) (MK km) xT) (rQ (some (.long (amR M q)))) 0 0 (fun _ => False) := by
  refine Met.ofW (cc := bM_amount) (maxL := 2) (ret := (some .long)) (by decide) rfl ?_
  intro p e s m args below meth c s₁ B hml hv
  obtain ⟨rfl, hP, hK, hX⟩ := hv
  have hx := B.exec
  have hb := B.bytes
  have hr := B.returns
  have hts := atoms_spec (ws := wM_amount) B.pre
  have hta : ∀ w ∈ AW, w.before _ s = true := fun w h => hts w (List.mem_cons_of_mem _ h)
  have hown : s.vm.findClass RM = some m.cls := findClass_of_methodNamed B.named
  have hlocks := B.notSynchronized
  have hl := lv_entry ([.ref (mo 0), .int (nI q)]) (n := 2) (Nat.le_of_ble_eq_true rfl)
  rw [lg_entry_eq]
  generalize (lg_sl ([.ref (mo 0), .int (nI q)]) ++ List.replicate (2 - (lg_sl ([.ref (mo 0), .int (nI q)])).length) Slot.unset).toArray = ls at hl ⊢
  have hl : lv_has ls 2 [(0, .ref (mo 0)), (1, .int (nI q))] := hl
  refine lv_aload_n hx hb dM_amount_0 rfl (lv_at hl 0 rfl) ?_
  refine va_get (D := (dC, dI)) (ci := 2) (v := .ref (mo 7)) (C := RM) (T := FM) (N := 19) hx hb hta iM hown hK hP 0 rfl rfl 14 (by decide) (hta _ m_506) (fun _ h9 => h9) rfl dM_amount_1 ?_
  refine lv_iload_n hx hb dM_amount_4 rfl (lv_at hl 1 rfl) ?_
  refine na_iald hx hb hK hP 7 6 rfl rfl (i := q) (by omega) (by decide) dM_amount_5 ?_
  refine W.eq (g2 := F0 m 6 ls [.int (enc (M.pl q))]) rfl ?_
  refine lv_iconst (v := (-1)) hx hb dM_amount_6 (by decide) ?_
  refine en_ne (o := (M.pl q)) (tgt := 25) hx hb dM_amount_7 (by decide) (fun j h => by have := hpl _ _ h; omega) (fun j_1 ho => ?_) (fun ho => ?_)
  · have hj9 := hpl _ _ ho
    refine lv_lconst (v := 0) hx hb dM_amount_25 (by decide) ?_
    exact W.lret (v := 0) hx hb hr (fun t ht hW => ⟨congrArg (fun z => Outcome.returned (some (.long z))) (by simp [amR, ho]), ht⟩) (fun q h => nomatch h) dM_amount_26
  · refine lv_aload_n hx hb dM_amount_10 rfl (lv_at hl 0 rfl) ?_
    refine va_get (D := (dC, dI)) (ci := 2) (v := .ref (mo 9)) (C := RM) (T := FM) (N := 19) hx hb hta iM hown hK hP 0 rfl rfl 16 (by decide) (hta _ m_508) (fun _ h9 => h9) rfl dM_amount_11 ?_
    refine lv_bipush (v := nI 13) hx hb dM_amount_14 (by decide) ?_
    refine lv_iload_n hx hb dM_amount_16 rfl (lv_at hl 1 rfl) ?_
    refine lv_imul hx hb dM_amount_17 ?_
    refine st_i (y := nI (13 * q)) (pk_mul _ _) ?_
    refine lv_bipush (v := nI 12) hx hb dM_amount_18 (by decide) ?_
    refine lv_iadd hx hb dM_amount_20 ?_
    refine st_i (y := nI ((13 * q) + 12)) (nI_add _ _) ?_
    refine na_lald hx hb hK hP 9 8 rfl rfl (i := ((13 * q) + 12)) (by omega) (by decide) dM_amount_21 ?_
    refine lv_goto (tgt := 26) hx hb dM_amount_22 (by decide) ?_
    exact W.lret (v := M.ta ((13 * q) + 12)) hx hb hr (fun t ht hW => ⟨congrArg (fun z => Outcome.returned (some (.long z))) (by simp [amR, ho]), ht⟩) (fun q h => nomatch h) dM_amount_26

set_option maxHeartbeats 4000000 in
set_option maxRecDepth 100000 in
theorem c_M_price (l : Launch) (dC : Nat → ClassId) (dI : Nat → Nat → Nat) (mo : Nat → Nat) (km : Nat → ClassId) (M : MS) (q : Nat) (hpl : ∀ v k, M.pl v = some k → k < 12) (hq9 : q < 37) : Met l yM_price wM_price ({ frames := 0, cells := 0, slots := 0, locals := 0 }) (rPc [.ref (mo 0), .int (nI q)] (dC, dI) vwCl (MW mo km M) (MK km) xT) (rQ (some (.long (prR M q)))) 0 0 (fun _ => False) := by
  refine Met.ofW (cc := bM_price) (maxL := 2) (ret := (some .long)) (by decide) rfl ?_
  intro p e s m args below meth c s₁ B hml hv
  obtain ⟨rfl, hP, hK, hX⟩ := hv
  have hx := B.exec
  have hb := B.bytes
  have hr := B.returns
  have hts := atoms_spec (ws := wM_price) B.pre
  have hta : ∀ w ∈ AW, w.before _ s = true := fun w h => hts w (List.mem_cons_of_mem _ h)
  have hown : s.vm.findClass RM = some m.cls := findClass_of_methodNamed B.named
  have hlocks := B.notSynchronized
  have hl := lv_entry ([.ref (mo 0), .int (nI q)]) (n := 2) (Nat.le_of_ble_eq_true rfl)
  rw [lg_entry_eq]
  generalize (lg_sl ([.ref (mo 0), .int (nI q)]) ++ List.replicate (2 - (lg_sl ([.ref (mo 0), .int (nI q)])).length) Slot.unset).toArray = ls at hl ⊢
  have hl : lv_has ls 2 [(0, .ref (mo 0)), (1, .int (nI q))] := hl
  refine lv_aload_n hx hb dM_price_0 rfl (lv_at hl 0 rfl) ?_
  refine va_get (D := (dC, dI)) (ci := 2) (v := .ref (mo 7)) (C := RM) (T := FM) (N := 19) hx hb hta iM hown hK hP 0 rfl rfl 14 (by decide) (hta _ m_506) (fun _ h9 => h9) rfl dM_price_1 ?_
  refine lv_iload_n hx hb dM_price_4 rfl (lv_at hl 1 rfl) ?_
  refine na_iald hx hb hK hP 7 6 rfl rfl (i := q) (by omega) (by decide) dM_price_5 ?_
  refine W.eq (g2 := F0 m 6 ls [.int (enc (M.pl q))]) rfl ?_
  refine lv_iconst (v := (-1)) hx hb dM_price_6 (by decide) ?_
  refine en_ne (o := (M.pl q)) (tgt := 14) hx hb dM_price_7 (by decide) (fun j h => by have := hpl _ _ h; omega) (fun k9 ho => ?_) (fun ho => ?_)
  · have hj9 := hpl _ _ ho
    refine lv_aload_n hx hb dM_price_14 rfl (lv_at hl 0 rfl) ?_
    refine va_get (D := (dC, dI)) (ci := 2) (v := .ref (mo 9)) (C := RM) (T := FM) (N := 19) hx hb hta iM hown hK hP 0 rfl rfl 16 (by decide) (hta _ m_508) (fun _ h9 => h9) rfl dM_price_15 ?_
    refine lv_sipush (v := nI 468) hx hb dM_price_18 (by decide) ?_
    refine lv_aload_n hx hb dM_price_21 rfl (lv_at hl 0 rfl) ?_
    refine va_get (D := (dC, dI)) (ci := 2) (v := .ref (mo 7)) (C := RM) (T := FM) (N := 19) hx hb hta iM hown hK hP 0 rfl rfl 14 (by decide) (hta _ m_506) (fun _ h9 => h9) rfl dM_price_22 ?_
    refine lv_iload_n hx hb dM_price_25 rfl (lv_at hl 1 rfl) ?_
    refine na_iald hx hb hK hP 7 6 rfl rfl (i := q) (by omega) (by decide) dM_price_26 ?_
    refine W.eq (g2 := F0 m 27 ls [.int (enc (M.pl q)), .int (nI 468), .ref (mo 9)]) rfl ?_
    refine st_i (y := nI k9) (by rw [ho]; rfl) ?_
    refine lv_iadd hx hb dM_price_27 ?_
    refine st_i (y := nI (468 + k9)) (nI_add _ _) ?_
    refine na_lald hx hb hK hP 9 8 rfl rfl (i := (468 + k9)) (by omega) (by decide) dM_price_28 ?_
    exact W.lret (v := M.ta (468 + k9)) hx hb hr (fun t ht hW => ⟨congrArg (fun z => Outcome.returned (some (.long z))) (by simp [prR, ho]), ht⟩) (fun q h => nomatch h) dM_price_29
  · refine lv_lconst (v := 0) hx hb dM_price_10 (by decide) ?_
    refine lv_goto (tgt := 29) hx hb dM_price_11 (by decide) ?_
    exact W.lret (v := 0) hx hb hr (fun t ht hW => ⟨congrArg (fun z => Outcome.returned (some (.long z))) (by simp [prR, ho]), ht⟩) (fun q h => nomatch h) dM_price_29

set_option maxHeartbeats 4000000 in
set_option maxRecDepth 100000 in
theorem c_M_weight (l : Launch) (dC : Nat → ClassId) (dI : Nat → Nat → Nat) (mo : Nat → Nat) (km : Nat → ClassId) (M : MS) (q g : Nat) (hpl : ∀ v k, M.pl v = some k → k < 12) (hq9 : q < 37) (hg : M.ag = some g) (hg9 : g < 36) : Met l yM_weight wM_weight ({ frames := 0, cells := 0, slots := 0, locals := 0 }) (rPc [.ref (mo 0), .int (nI q)] (dC, dI) vwCl (MW mo km M) (MK km) xT) (rQ (some (.long (weR M g q)))) 0 0 (fun _ => False) := by
  refine Met.ofW (cc := bM_weight) (maxL := 2) (ret := (some .long)) (by decide) rfl ?_
  intro p e s m args below meth c s₁ B hml hv
  obtain ⟨rfl, hP, hK, hX⟩ := hv
  have hx := B.exec
  have hb := B.bytes
  have hr := B.returns
  have hts := atoms_spec (ws := wM_weight) B.pre
  have hta : ∀ w ∈ AW, w.before _ s = true := fun w h => hts w (List.mem_cons_of_mem _ h)
  have hown : s.vm.findClass RM = some m.cls := findClass_of_methodNamed B.named
  have hlocks := B.notSynchronized
  have hl := lv_entry ([.ref (mo 0), .int (nI q)]) (n := 2) (Nat.le_of_ble_eq_true rfl)
  rw [lg_entry_eq]
  generalize (lg_sl ([.ref (mo 0), .int (nI q)]) ++ List.replicate (2 - (lg_sl ([.ref (mo 0), .int (nI q)])).length) Slot.unset).toArray = ls at hl ⊢
  have hl : lv_has ls 2 [(0, .ref (mo 0)), (1, .int (nI q))] := hl
  refine lv_iload_n hx hb dM_weight_0 rfl (lv_at hl 1 rfl) ?_
  refine lv_aload_n hx hb dM_weight_1 rfl (lv_at hl 0 rfl) ?_
  refine va_get (D := (dC, dI)) (ci := 2) (v := .int (enc M.ag)) (C := RM) (T := FM) (N := 19) hx hb hta iM hown hK hP 0 rfl rfl 18 (by decide) (hta _ m_510) (fun _ h9 => h9) rfl dM_weight_2 ?_
  refine st_i (y := nI g) (by rw [hg]; rfl) ?_
  refine ni_ne (tgt := 15) hx hb dM_weight_5 (by decide) (by omega) (by omega) (fun h1 => ?_) (fun h1 => ?_)
  · refine lv_aload_n hx hb dM_weight_15 rfl (lv_at hl 0 rfl) ?_
    refine va_get (D := (dC, dI)) (ci := 2) (v := .ref (mo 7)) (C := RM) (T := FM) (N := 19) hx hb hta iM hown hK hP 0 rfl rfl 14 (by decide) (hta _ m_506) (fun _ h9 => h9) rfl dM_weight_16 ?_
    refine lv_iload_n hx hb dM_weight_19 rfl (lv_at hl 1 rfl) ?_
    refine na_iald hx hb hK hP 7 6 rfl rfl (i := q) (by omega) (by decide) dM_weight_20 ?_
    refine W.eq (g2 := F0 m 21 ls [.int (enc (M.pl q))]) rfl ?_
    refine lv_iconst (v := (-1)) hx hb dM_weight_21 (by decide) ?_
    refine en_ne (o := (M.pl q)) (tgt := 29) hx hb dM_weight_22 (by decide) (fun j h => by have := hpl _ _ h; omega) (fun k9 ho => ?_) (fun ho => ?_)
    · have hj9 := hpl _ _ ho
      refine lv_aload_n hx hb dM_weight_29 rfl (lv_at hl 0 rfl) ?_
      refine va_get (D := (dC, dI)) (ci := 2) (v := .ref (mo 9)) (C := RM) (T := FM) (N := 19) hx hb hta iM hown hK hP 0 rfl rfl 16 (by decide) (hta _ m_508) (fun _ h9 => h9) rfl dM_weight_30 ?_
      refine lv_bipush (v := nI 13) hx hb dM_weight_33 (by decide) ?_
      refine lv_aload_n hx hb dM_weight_35 rfl (lv_at hl 0 rfl) ?_
      refine va_get (D := (dC, dI)) (ci := 2) (v := .int (enc M.ag)) (C := RM) (T := FM) (N := 19) hx hb hta iM hown hK hP 0 rfl rfl 18 (by decide) (hta _ m_510) (fun _ h9 => h9) rfl dM_weight_36 ?_
      refine st_i (y := nI g) (by rw [hg]; rfl) ?_
      refine lv_imul hx hb dM_weight_39 ?_
      refine st_i (y := nI (13 * g)) (pk_mul _ _) ?_
      refine lv_aload_n hx hb dM_weight_40 rfl (lv_at hl 0 rfl) ?_
      refine va_get (D := (dC, dI)) (ci := 2) (v := .ref (mo 7)) (C := RM) (T := FM) (N := 19) hx hb hta iM hown hK hP 0 rfl rfl 14 (by decide) (hta _ m_506) (fun _ h9 => h9) rfl dM_weight_41 ?_
      refine lv_iload_n hx hb dM_weight_44 rfl (lv_at hl 1 rfl) ?_
      refine na_iald hx hb hK hP 7 6 rfl rfl (i := q) (by omega) (by decide) dM_weight_45 ?_
      refine W.eq (g2 := F0 m 46 ls [.int (enc (M.pl q)), .int (nI (13 * g)), .ref (mo 9)]) rfl ?_
      refine st_i (y := nI k9) (by rw [ho]; rfl) ?_
      refine lv_iadd hx hb dM_weight_46 ?_
      refine st_i (y := nI ((13 * g) + k9)) (nI_add _ _) ?_
      refine na_lald hx hb hK hP 9 8 rfl rfl (i := ((13 * g) + k9)) (by omega) (by decide) dM_weight_47 ?_
      refine lv_lneg hx hb dM_weight_48 ?_
      exact W.lret (v := -(M.ta ((13 * g) + k9))) hx hb hr (fun t ht hW => ⟨congrArg (fun z => Outcome.returned (some (.long z))) (by first | (simp [weR, h1]; done) | (rw [weR, if_neg h1, ho])), ht⟩) (fun q h => nomatch h) dM_weight_49
    · refine lv_lconst (v := 0) hx hb dM_weight_25 (by decide) ?_
      refine lv_goto (tgt := 49) hx hb dM_weight_26 (by decide) ?_
      exact W.lret (v := 0) hx hb hr (fun t ht hW => ⟨congrArg (fun z => Outcome.returned (some (.long z))) (by first | (simp [weR, h1]; done) | (rw [weR, if_neg h1, ho])), ht⟩) (fun q h => nomatch h) dM_weight_49
  · refine lv_aload_n hx hb dM_weight_8 rfl (lv_at hl 0 rfl) ?_
    refine va_get (D := (dC, dI)) (ci := 2) (v := .long M.dn) (C := RM) (T := FM) (N := 19) hx hb hta iM hown hK hP 0 rfl rfl 13 (by decide) (hta _ m_505) (fun _ h9 => h9) rfl dM_weight_9 ?_
    refine lv_goto (tgt := 49) hx hb dM_weight_12 (by decide) ?_
    exact W.lret (v := M.dn) hx hb hr (fun t ht hW => ⟨congrArg (fun z => Outcome.returned (some (.long z))) (by first | (simp [weR, h1]; done) | (rw [weR, if_neg h1, ho])), ht⟩) (fun q h => nomatch h) dM_weight_49
end
section
def mTa (M : MS) (t : Nat → Int64) : MS := ms M.thr M.wk M.co M.cs M.ro M.ki M.wo M.ri M.fa M.li M.ln M.hr M.st M.dn M.pl M.ou t M.nx M.ag
def mNx (M : MS) (t : Nat → Int64) : MS := ms M.thr M.wk M.co M.cs M.ro M.ki M.wo M.ri M.fa M.li M.ln M.hr M.st M.dn M.pl M.ou M.ta t M.ag
def mTn (M : MS) (t u : Nat → Int64) : MS := ms M.thr M.wk M.co M.cs M.ro M.ki M.wo M.ri M.fa M.li M.ln M.hr M.st M.dn M.pl M.ou t u M.ag
def mTh (M : MS) (t : Nat) : MS := ms t M.wk M.co M.cs M.ro M.ki M.wo M.ri M.fa M.li M.ln M.hr M.st M.dn M.pl M.ou M.ta M.nx M.ag
def adM (M : MS) (kd wk : Int32) (b : Int64) : MS := ms M.thr M.wk M.co M.cs (M.ro + 1) (upd M.ki M.ro kd) (upd M.wo M.ro wk) (vp_updL M.ri M.ro b) M.fa M.li M.ln M.hr M.st M.dn M.pl M.ou M.ta M.nx M.ag
def atK (co k : Nat) : Nat := if k = co then 12 else k
def cmF (M : MS) (r : Nat) : Nat → Nat → Bool → Bool
  | _, 0, b => b
  | k, n + 1, b => cmF M r (k + 1) n (b && !isGrB (suM M r (atK M.co k)))
def cmX (tu : Bool) (x : Int64) : Int64 := if tu then -x else x
def cmI (M : MS) (r v : Nat) (tu : Bool) : Nat → Nat → (Nat → Int64) → (Nat → Int64)
  | _, 0, t => t
  | k, n + 1, t => cmI M r v tu (k + 1) n (vp_updL t (13 * v + atK M.co k) (cmX tu (suM (mTa M t) r (atK M.co k))))
def tuB (M : MS) (r j : Nat) : Bool := decide (M.ki r = 1) || decide (j = 1)
def cmO (M : MS) (r : Nat) : Nat → Nat → (Nat → Int64) → (Nat → Int64)
  | _, 0, t => t
  | j, n + 1, t => cmO M r (j + 1) n (cmI M r (M.co + M.ln + j) (tuB M r j) 0 (M.co + 1) t)
def cmM (M : MS) (r : Nat) : Bool × MS := if cmF M r 0 (M.co + 1) true then (true, ms M.thr M.wk M.co M.cs M.ro M.ki M.wo M.ri M.fa (va_up M.li r (some (M.co + M.ln))) (M.ln + lnM M.ki r) M.hr M.st M.dn M.pl M.ou (cmO M r 0 (lnM M.ki r) M.ta) M.nx M.ag) else (false, M)
def spX (M : MS) (le q v : Nat) (k : Nat) : Int64 := if k = q then M.ta (13 * v + q) else (M.ta (13 * v + k) * M.ta (13 * le + q) - M.ta (13 * v + q) * M.ta (13 * le + k)) / M.dn
def spI (M : MS) (le q v : Nat) : Nat → Nat → (Nat → Int64) → Bool → (Nat → Int64) × Bool
  | _, 0, t, b => (t, b)
  | k, n + 1, t, b => spI M le q v (k + 1) n (vp_updL t (13 * v + k) (spX M le q v k)) (b && !isGrB (spX M le q v k))
def spO (M : MS) (le q : Nat) : Nat → Nat → (Nat → Int64) → Bool → (Nat → Int64) × Bool
  | _, 0, t, b => (t, b)
  | v, n + 1, t, b => if inB M v ∧ v ≠ le then spO M le q (v + 1) n (spI M le q v 0 13 t b).1 (spI M le q v 0 13 t b).2 else spO M le q (v + 1) n t b
def cpI (nx : Nat → Int64) (v : Nat) : Nat → Nat → (Nat → Int64) → (Nat → Int64)
  | _, 0, t => t
  | k, n + 1, t => cpI nx v (k + 1) n (vp_updL t (13 * v + k) (nx (13 * v + k)))
def cpO (M : MS) (nx : Nat → Int64) (le : Nat) : Nat → Nat → (Nat → Int64) → (Nat → Int64)
  | _, 0, t => t
  | v, n + 1, t => cpO M nx le (v + 1) n (if inB M v ∧ v ≠ le then cpI nx v 0 13 t else t)
def teR (dn : Int64) (le q en : Nat) : Nat → Nat → (Nat → Int64) → (Nat → Int64)
  | _, 0, t => t
  | k, n + 1, t => teR dn le q en (k + 1) n (vp_updL t (13 * en + k) (if k = q then dn else -(t (13 * le + k))))
def spN (M : MS) (le q : Nat) : (Nat → Int64) × Bool := spO M le q 0 37 M.nx (!isGrB (M.ta (13 * le + q)))
def spM (M : MS) (le q : Nat) : Bool × MS := if (spN M le q).2 then (true, ms M.thr M.wk M.co M.cs M.ro M.ki M.wo M.ri M.fa M.li M.ln M.hr (M.st + 1) (M.ta (13 * le + q)) (va_up (va_up M.pl (M.ou q) none) le (some q)) (va_up M.ou q le) (teR M.dn le q (M.ou q) 0 13 (cpO M (spN M le q).1 le 0 37 M.ta)) (spN M le q).1 M.ag) else (false, mNx M (spN M le q).1)
end
section
set_option maxHeartbeats 4000000 in
set_option maxRecDepth 100000 in
theorem c_M_add (l : Launch) (dC : Nat → ClassId) (dI : Nat → Nat → Nat) (mo : Nat → Nat) (km : Nat → ClassId) (M : MS) (sz : Nat) (kd wk : Int32) (b : Int64) (hro : M.ro < 12) : Met l yM_add wM_add ({ frames := 0, cells := 0, slots := 0, locals := 0 }) (wPc [.ref (mo 0), .int kd, .int wk, .long b] sz (dC, dI) vwCl (MW mo km M) (MK km) xT) (wQ (some (.int (nI M.ro))) (dC, dI) vwCl (MW mo km (adM M kd wk b)) (va_A (MW mo km M) sz)) 0 0 (va_A (MW mo km M) sz) := by
  refine Met.ofW (cc := bM_add) (maxL := 5) (ret := (some .int)) (by decide) rfl ?_
  intro p e s m args below meth c s₁ B hml hv
  obtain ⟨rfl, hsz, hP, hK, hD0, hX⟩ := hv
  have hx := B.exec
  have hb := B.bytes
  have hr := B.returns
  have hts := atoms_spec (ws := wM_add) B.pre
  have hta : ∀ w ∈ AW, w.before _ s = true := fun w h => hts w (List.mem_cons_of_mem _ h)
  have hown : s.vm.findClass RM = some m.cls := findClass_of_methodNamed B.named
  have hlocks := B.notSynchronized
  subst hsz
  have hD := hD0.self (sz := s.heap.size)
  generalize hAe : va_A (MW mo km M) s.heap.size = A at hD ⊢
  have hA : ∀ q : Nat, s.heap.size ≤ q → A q := fun q h => by rw [← hAe]; exact Or.inr h
  have hS : va_S A s.heap s.heap [] := va_S.rf
  have hl := lv_entry ([.ref (mo 0), .int kd, .int wk, .long b]) (n := 5) (Nat.le_of_ble_eq_true rfl)
  rw [lg_entry_eq]
  generalize (lg_sl ([.ref (mo 0), .int kd, .int wk, .long b]) ++ List.replicate (5 - (lg_sl ([.ref (mo 0), .int kd, .int wk, .long b])).length) Slot.unset).toArray = ls at hl ⊢
  have hl : lv_has ls 5 [(0, .ref (mo 0)), (1, .int kd), (2, .int wk), (3, .long b)] := hl
  refine lv_aload_n hx hb dM_add_0 rfl (lv_at hl 0 rfl) ?_
  refine va_get (D := (dC, dI)) (ci := 2) (v := .ref (mo 2)) (C := RM) (T := FM) (N := 19) hx hb hta iM hown hK hP 0 rfl rfl 5 (by decide) (hta _ m_497) (fun _ h9 => h9) rfl dM_add_1 ?_
  refine lv_aload_n hx hb dM_add_4 rfl (lv_at hl 0 rfl) ?_
  refine va_get (D := (dC, dI)) (ci := 2) (v := .int (nI M.ro)) (C := RM) (T := FM) (N := 19) hx hb hta iM hown hK hP 0 rfl rfl 4 (by decide) (hta _ m_496) (fun _ h9 => h9) rfl dM_add_5 ?_
  refine lv_iload_n hx hb dM_add_8 rfl (lv_at hl 1 rfl) ?_
  refine na_iast hx hb hK hP hD hS 2 1 rfl rfl (i := M.ro) (x := kd) (by omega) (by decide) dM_add_9 (fun H locs hP hD hS => ?_)
  have hP : va_P (dC, dI) vwCl (MW mo km (ms M.thr M.wk M.co M.cs M.ro (upd M.ki M.ro kd) M.wo M.ri M.fa M.li M.ln M.hr M.st M.dn M.pl M.ou M.ta M.nx M.ag)) H := hP
  have hD : va_D A (MW mo km (ms M.thr M.wk M.co M.cs M.ro (upd M.ki M.ro kd) M.wo M.ri M.fa M.li M.ln M.hr M.st M.dn M.pl M.ou M.ta M.nx M.ag)) := hD
  refine lv_aload_n hx hb dM_add_10 rfl (lv_at hl 0 rfl) ?_
  refine va_get (D := (dC, dI)) (ci := 2) (v := .ref (mo 3)) (C := RM) (T := FM) (N := 19) hx hb hta iM hown hK hP 0 rfl rfl 6 (by decide) (hta _ m_498) (fun _ h9 => h9) rfl dM_add_11 ?_
  refine lv_aload_n hx hb dM_add_14 rfl (lv_at hl 0 rfl) ?_
  refine va_get (D := (dC, dI)) (ci := 2) (v := .int (nI M.ro)) (C := RM) (T := FM) (N := 19) hx hb hta iM hown hK hP 0 rfl rfl 4 (by decide) (hta _ m_496) (fun _ h9 => h9) rfl dM_add_15 ?_
  refine lv_iload_n hx hb dM_add_18 rfl (lv_at hl 2 rfl) ?_
  refine na_iast hx hb hK hP hD hS 3 2 rfl rfl (i := M.ro) (x := wk) (by omega) (by decide) dM_add_19 (fun H locs hP hD hS => ?_)
  have hP : va_P (dC, dI) vwCl (MW mo km (ms M.thr M.wk M.co M.cs M.ro (upd M.ki M.ro kd) (upd M.wo M.ro wk) M.ri M.fa M.li M.ln M.hr M.st M.dn M.pl M.ou M.ta M.nx M.ag)) H := hP
  have hD : va_D A (MW mo km (ms M.thr M.wk M.co M.cs M.ro (upd M.ki M.ro kd) (upd M.wo M.ro wk) M.ri M.fa M.li M.ln M.hr M.st M.dn M.pl M.ou M.ta M.nx M.ag)) := hD
  refine lv_aload_n hx hb dM_add_20 rfl (lv_at hl 0 rfl) ?_
  refine va_get (D := (dC, dI)) (ci := 2) (v := .ref (mo 4)) (C := RM) (T := FM) (N := 19) hx hb hta iM hown hK hP 0 rfl rfl 7 (by decide) (hta _ m_499) (fun _ h9 => h9) rfl dM_add_21 ?_
  refine lv_aload_n hx hb dM_add_24 rfl (lv_at hl 0 rfl) ?_
  refine va_get (D := (dC, dI)) (ci := 2) (v := .int (nI M.ro)) (C := RM) (T := FM) (N := 19) hx hb hta iM hown hK hP 0 rfl rfl 4 (by decide) (hta _ m_496) (fun _ h9 => h9) rfl dM_add_25 ?_
  refine lv_lload_n hx hb dM_add_28 rfl (lv_at hl 3 rfl) ?_
  refine na_last hx hb hK hP hD hS 4 3 rfl rfl (i := M.ro) (x := b) (by omega) (by decide) dM_add_29 (fun H locs hP hD hS => ?_)
  have hP : va_P (dC, dI) vwCl (MW mo km (ms M.thr M.wk M.co M.cs M.ro (upd M.ki M.ro kd) (upd M.wo M.ro wk) (vp_updL M.ri M.ro b) M.fa M.li M.ln M.hr M.st M.dn M.pl M.ou M.ta M.nx M.ag)) H := hP
  have hD : va_D A (MW mo km (ms M.thr M.wk M.co M.cs M.ro (upd M.ki M.ro kd) (upd M.wo M.ro wk) (vp_updL M.ri M.ro b) M.fa M.li M.ln M.hr M.st M.dn M.pl M.ou M.ta M.nx M.ag)) := hD
  refine lv_aload_n hx hb dM_add_30 rfl (lv_at hl 0 rfl) ?_
  refine lv_dup hx hb dM_add_31 rfl ?_
  refine va_get (D := (dC, dI)) (ci := 2) (v := .int (nI M.ro)) (C := RM) (T := FM) (N := 19) hx hb hta iM hown hK hP 0 rfl rfl 4 (by decide) (hta _ m_496) (fun _ h9 => h9) rfl dM_add_32 ?_
  refine lv_iconst (v := nI 1) hx hb dM_add_35 (by decide) ?_
  refine lv_iadd hx hb dM_add_36 ?_
  refine st_i (y := nI (M.ro + 1)) (nI_add _ _) ?_
  refine va_put (D := (dC, dI)) (ci := 2) (v := .int (nI (M.ro + 1))) (ty := .int) (C := RM) (T := FM) (N := 19) hx hb hta iM tM tM_ok nM hown hK hP hD hS 0 rfl rfl 4 (by decide) (hta _ m_496) (fun _ h9 => h9) rfl (by decide +kernel) rfl rfl (Nat.le_of_ble_eq_true rfl) dM_add_37 (fun H locs hP hD hS => ?_)
  have hP : va_P (dC, dI) vwCl (MW mo km (ms M.thr M.wk M.co M.cs (M.ro + 1) (upd M.ki M.ro kd) (upd M.wo M.ro wk) (vp_updL M.ri M.ro b) M.fa M.li M.ln M.hr M.st M.dn M.pl M.ou M.ta M.nx M.ag)) H := hP
  have hD : va_D A (MW mo km (ms M.thr M.wk M.co M.cs (M.ro + 1) (upd M.ki M.ro kd) (upd M.wo M.ro wk) (vp_updL M.ri M.ro b) M.fa M.li M.ln M.hr M.st M.dn M.pl M.ou M.ta M.nx M.ag)) := hD
  refine lv_aload_n hx hb dM_add_40 rfl (lv_at hl 0 rfl) ?_
  refine va_get (D := (dC, dI)) (ci := 2) (v := .int (nI (M.ro + 1))) (C := RM) (T := FM) (N := 19) hx hb hta iM hown hK hP 0 rfl rfl 4 (by decide) (hta _ m_496) (fun _ h9 => h9) rfl dM_add_41 ?_
  refine lv_iconst (v := nI 1) hx hb dM_add_44 (by decide) ?_
  refine lv_isub hx hb dM_add_45 ?_
  refine st_i (y := nI M.ro) (nI_pred _) ?_
  exact W.iret (v := nI M.ro) hx hb hr (fun t ht hW => ⟨rfl, by rw [ht]; exact hP, hS.F ht⟩) hS.2.2 dM_add_46

set_option maxHeartbeats 4000000 in
set_option maxRecDepth 100000 in
theorem c_M_comes (l : Launch) (dC : Nat → ClassId) (dI : Nat → Nat → Nat) (mo : Nat → Nat) (km : Nat → ClassId) (M : MS) (sz : Nat) (r : Nat) (hpl : ∀ v k, M.pl v = some k → k < 12) (hco : M.co ≤ 12) (hr9 : r < 12) (hcl : M.co + M.ln + lnM M.ki r ≤ 36) : Met l yM_comes wM_comes ({ frames := 1, cells := 0, slots := 0, locals := 27 }) (wPc [.ref (mo 0), .int (nI r)] sz (dC, dI) vwCl (MW mo km M) (MK km) xT) (wQ (some (.int (bI (cmM M r).1))) (dC, dI) vwCl (MW mo km ((cmM M r).2)) (va_A (MW mo km M) sz)) 0 0 (va_A (MW mo km M) sz) := by
  refine Met.ofW (cc := bM_comes) (maxL := 9) (ret := (some .boolean)) (by decide) rfl ?_
  intro p e s m args below meth c s₁ B hml hv
  obtain ⟨rfl, hsz, hP, hK, hD0, hX⟩ := hv
  have hx := B.exec
  have hb := B.bytes
  have hr := B.returns
  have hts := atoms_spec (ws := wM_comes) B.pre
  have hta : ∀ w ∈ AW, w.before _ s = true := fun w h => hts w (List.mem_cons_of_mem _ h)
  have hown : s.vm.findClass RM = some m.cls := findClass_of_methodNamed B.named
  have hlocks := B.notSynchronized
  subst hsz
  have hD := hD0.self (sz := s.heap.size)
  generalize hAe : va_A (MW mo km M) s.heap.size = A at hD ⊢
  have hA : ∀ q : Nat, s.heap.size ≤ q → A q := fun q h => by rw [← hAe]; exact Or.inr h
  have hS : va_S A s.heap s.heap [] := va_S.rf
  have hl := lv_entry ([.ref (mo 0), .int (nI r)]) (n := 9) (Nat.le_of_ble_eq_true rfl)
  rw [lg_entry_eq]
  generalize (lg_sl ([.ref (mo 0), .int (nI r)]) ++ List.replicate (9 - (lg_sl ([.ref (mo 0), .int (nI r)])).length) Slot.unset).toArray = ls at hl ⊢
  have hl : lv_has ls 9 [(0, .ref (mo 0)), (1, .int (nI r))] := hl
  refine lv_iconst (v := 1) hx hb dM_comes_0 (by decide) ?_
  refine lv_istore_n (lv' := [(2, .int 1), (0, .ref (mo 0)), (1, .int (nI r))]) hx hb dM_comes_1 rfl hl (by decide) rfl (fun ls hl => ?_)
  refine lv_iconst (v := nI 0) hx hb dM_comes_2 (by decide) ?_
  refine lv_istore_n (lv' := [(3, .int (nI 0)), (2, .int 1), (0, .ref (mo 0)), (1, .int (nI r))]) hx hb dM_comes_3 rfl hl (by decide) rfl (fun ls hl => ?_)
  have loop4 : ∀ (n : Nat) (i : Nat) (b : Bool) (ls : Array Slot), (i + n = M.co + 1) → (cmF M r i n b = cmF M r 0 (M.co + 1) true) → lv_has ls 9 [(3, .int (nI i)), (2, .int (bI b)), (0, .ref (mo 0)), (1, .int (nI r))] → W p l e (headSpec wM_comes ({ frames := 1, cells := 0, slots := 0, locals := 27 })).room s m ([.ref (mo 0), .int (nI r)] : List Value).toArray below meth c s.heap [] 0 0 (MQ below (wQ (some (.int (bI (cmM M r).1))) (dC, dI) vwCl (MW mo km ((cmM M r).2)) A) ([.ref (mo 0), .int (nI r)] : List Value).toArray s 0 0 A) (F0 m 4 ls []) := by
    intro n
    induction n with
    | zero =>
      intro i b ls hn hq hl
      refine lv_iload_n hx hb dM_comes_4 rfl (lv_at hl 0 rfl) ?_
      refine lv_aload_n hx hb dM_comes_5 rfl (lv_at hl 2 rfl) ?_
      refine va_get (D := (dC, dI)) (ci := 2) (v := .int (nI M.co)) (C := RM) (T := FM) (N := 19) hx hb hta iM hown hK hP 0 rfl rfl 2 (by decide) (hta _ m_494) (fun _ h9 => h9) rfl dM_comes_6 ?_
      refine ni_gt (tgt := 57) hx hb dM_comes_9 (by decide) (by omega) (by omega) (fun c_1 => ?_) (fun c_1 => ?_)
      · refine lv_iload_n hx hb dM_comes_57 rfl (lv_at hl 1 rfl) ?_
        refine lb_ne (tgt := 63) hx hb dM_comes_58 (by decide) (fun hb9 => ?_) (fun hb9 => ?_)
        · have e9 : cmM M r = (true, _) := if_pos (by rw [← hq]; exact hb9)
          have join78 : ∀ (ls : Array Slot), lv_has ls 9 [(3, .int (nI i)), (2, .int (bI b)), (0, .ref (mo 0)), (1, .int (nI r))] → W p l e (headSpec wM_comes ({ frames := 1, cells := 0, slots := 0, locals := 27 })).room s m ([.ref (mo 0), .int (nI r)] : List Value).toArray below meth c s.heap [] 0 0 (MQ below (wQ (some (.int (bI (cmM M r).1))) (dC, dI) vwCl (MW mo km ((cmM M r).2)) A) ([.ref (mo 0), .int (nI r)] : List Value).toArray s 0 0 A) (F0 m 78 ls [.int (nI (lnM M.ki r))]) := by
            intro ls hl
            refine lv_istore_n (lv' := [(3, .int (nI (lnM M.ki r))), (2, .int (bI b)), (0, .ref (mo 0)), (1, .int (nI r))]) hx hb dM_comes_78 rfl hl (by decide) rfl (fun ls hl => ?_)
            refine lv_iconst (v := nI 0) hx hb dM_comes_79 (by decide) ?_
            refine lv_istore (lv' := [(4, .int (nI 0)), (3, .int (nI (lnM M.ki r))), (2, .int (bI b)), (0, .ref (mo 0)), (1, .int (nI r))]) hx hb dM_comes_80 hl (by decide) rfl (fun ls hl => ?_)
            have loop82 : ∀ (n2 : Nat) (j : Nat) (t : Nat → Int64) (H : Heap) (locs : List Loc) (ls : Array Slot), (j + n2 = lnM M.ki r) → (cmO M r j n2 t = cmO M r 0 (lnM M.ki r) M.ta) → va_P (dC, dI) vwCl (MW mo km (mTa M t)) H → va_D A (MW mo km (mTa M t)) → va_S A s.heap H locs → lv_has ls 9 [(4, .int (nI j)), (3, .int (nI (lnM M.ki r))), (2, .int (bI b)), (0, .ref (mo 0)), (1, .int (nI r))] → W p l e (headSpec wM_comes ({ frames := 1, cells := 0, slots := 0, locals := 27 })).room s m ([.ref (mo 0), .int (nI r)] : List Value).toArray below meth c H locs 0 0 (MQ below (wQ (some (.int (bI (cmM M r).1))) (dC, dI) vwCl (MW mo km ((cmM M r).2)) A) ([.ref (mo 0), .int (nI r)] : List Value).toArray s 0 0 A) (F0 m 82 ls []) := by
              intro n2
              induction n2 with
              | zero =>
                intro j t H locs ls hn2 hq2 hP hD hS hl
                have hln := lnM_le M.ki r
                refine lv_iload hx hb dM_comes_82 (lv_at hl 0 rfl) ?_
                refine lv_iload_n hx hb dM_comes_84 rfl (lv_at hl 1 rfl) ?_
                refine ni_ge (tgt := 203) hx hb dM_comes_85 (by decide) (by omega) (by omega) (fun c_2 => ?_) (fun c_2 => ?_)
                · refine lv_aload_n hx hb dM_comes_203 rfl (lv_at hl 3 rfl) ?_
                  refine va_get (D := (dC, dI)) (ci := 2) (v := .ref (mo 6)) (C := RM) (T := FM) (N := 19) hx hb hta iM hown hK hP 0 rfl rfl 9 (by decide) (hta _ m_501) (fun _ h9 => h9) rfl dM_comes_204 ?_
                  refine lv_iload_n hx hb dM_comes_207 rfl (lv_at hl 4 rfl) ?_
                  refine lv_aload_n hx hb dM_comes_208 rfl (lv_at hl 3 rfl) ?_
                  refine va_get (D := (dC, dI)) (ci := 2) (v := .int (nI M.co)) (C := RM) (T := FM) (N := 19) hx hb hta iM hown hK hP 0 rfl rfl 2 (by decide) (hta _ m_494) (fun _ h9 => h9) rfl dM_comes_209 ?_
                  refine lv_aload_n hx hb dM_comes_212 rfl (lv_at hl 3 rfl) ?_
                  refine va_get (D := (dC, dI)) (ci := 2) (v := .int (nI M.ln)) (C := RM) (T := FM) (N := 19) hx hb hta iM hown hK hP 0 rfl rfl 10 (by decide) (hta _ m_502) (fun _ h9 => h9) rfl dM_comes_213 ?_
                  refine lv_iadd hx hb dM_comes_216 ?_
                  refine st_i (y := nI (M.co + M.ln)) (nI_add _ _) ?_
                  refine na_iast hx hb hK hP hD hS 6 5 rfl rfl (i := r) (x := enc (some (M.co + M.ln))) (by omega) (by decide) dM_comes_217 (fun H locs hP hD hS => ?_)
                  rw [encF_up] at hP hD
                  have hP : va_P (dC, dI) vwCl (MW mo km (ms M.thr M.wk M.co M.cs M.ro M.ki M.wo M.ri M.fa (va_up M.li r (some (M.co + M.ln))) M.ln M.hr M.st M.dn M.pl M.ou t M.nx M.ag)) H := hP
                  have hD : va_D A (MW mo km (ms M.thr M.wk M.co M.cs M.ro M.ki M.wo M.ri M.fa (va_up M.li r (some (M.co + M.ln))) M.ln M.hr M.st M.dn M.pl M.ou t M.nx M.ag)) := hD
                  refine lv_aload_n hx hb dM_comes_218 rfl (lv_at hl 3 rfl) ?_
                  refine lv_dup hx hb dM_comes_219 rfl ?_
                  refine va_get (D := (dC, dI)) (ci := 2) (v := .int (nI M.ln)) (C := RM) (T := FM) (N := 19) hx hb hta iM hown hK hP 0 rfl rfl 10 (by decide) (hta _ m_502) (fun _ h9 => h9) rfl dM_comes_220 ?_
                  refine lv_iload_n hx hb dM_comes_223 rfl (lv_at hl 1 rfl) ?_
                  refine lv_iadd hx hb dM_comes_224 ?_
                  refine st_i (y := nI (M.ln + (lnM M.ki r))) (nI_add _ _) ?_
                  refine va_put (D := (dC, dI)) (ci := 2) (v := .int (nI (M.ln + (lnM M.ki r)))) (ty := .int) (C := RM) (T := FM) (N := 19) hx hb hta iM tM tM_ok nM hown hK hP hD hS 0 rfl rfl 10 (by decide) (hta _ m_502) (fun _ h9 => h9) rfl (by decide +kernel) rfl rfl (Nat.le_of_ble_eq_true rfl) dM_comes_225 (fun H locs hP hD hS => ?_)
                  have hP : va_P (dC, dI) vwCl (MW mo km (ms M.thr M.wk M.co M.cs M.ro M.ki M.wo M.ri M.fa (va_up M.li r (some (M.co + M.ln))) (M.ln + (lnM M.ki r)) M.hr M.st M.dn M.pl M.ou t M.nx M.ag)) H := hP
                  have hD : va_D A (MW mo km (ms M.thr M.wk M.co M.cs M.ro M.ki M.wo M.ri M.fa (va_up M.li r (some (M.co + M.ln))) (M.ln + (lnM M.ki r)) M.hr M.st M.dn M.pl M.ou t M.nx M.ag)) := hD
                  refine lv_iconst (v := 1) hx hb dM_comes_228 (by decide) ?_
                  exact W.zret (v := 1) hx hb hr (rfl) (fun t ht hW => ⟨congrArg (fun z => Outcome.returned (some (.int z))) (by rw [e9]; rfl), by rw [ht]; exact (by rw [e9, ← hq2]; exact hP), hS.F ht⟩) hS.2.2 dM_comes_229
                · exfalso; omega
              | succ n2 ih82 =>
                intro j t H locs ls hn2 hq2 hP hD hS hl
                have hln := lnM_le M.ki r
                refine lv_iload hx hb dM_comes_82 (lv_at hl 0 rfl) ?_
                refine lv_iload_n hx hb dM_comes_84 rfl (lv_at hl 1 rfl) ?_
                refine ni_ge (tgt := 203) hx hb dM_comes_85 (by decide) (by omega) (by omega) (fun c_3 => ?_) (fun c_3 => ?_)
                · exfalso; omega
                · refine lv_aload_n hx hb dM_comes_88 rfl (lv_at hl 3 rfl) ?_
                  refine va_get (D := (dC, dI)) (ci := 2) (v := .int (nI M.co)) (C := RM) (T := FM) (N := 19) hx hb hta iM hown hK hP 0 rfl rfl 2 (by decide) (hta _ m_494) (fun _ h9 => h9) rfl dM_comes_89 ?_
                  refine lv_aload_n hx hb dM_comes_92 rfl (lv_at hl 3 rfl) ?_
                  refine va_get (D := (dC, dI)) (ci := 2) (v := .int (nI M.ln)) (C := RM) (T := FM) (N := 19) hx hb hta iM hown hK hP 0 rfl rfl 10 (by decide) (hta _ m_502) (fun _ h9 => h9) rfl dM_comes_93 ?_
                  refine lv_iadd hx hb dM_comes_96 ?_
                  refine st_i (y := nI (M.co + M.ln)) (nI_add _ _) ?_
                  refine lv_iload hx hb dM_comes_97 (lv_at hl 0 rfl) ?_
                  refine lv_iadd hx hb dM_comes_99 ?_
                  refine st_i (y := nI ((M.co + M.ln) + j)) (nI_add _ _) ?_
                  refine lv_istore (lv' := [(5, .int (nI ((M.co + M.ln) + j))), (4, .int (nI j)), (3, .int (nI (lnM M.ki r))), (2, .int (bI b)), (0, .ref (mo 0)), (1, .int (nI r))]) hx hb dM_comes_100 hl (by decide) rfl (fun ls hl => ?_)
                  have join123 : ∀ (ls : Array Slot), lv_has ls 9 [(5, .int (nI ((M.co + M.ln) + j))), (4, .int (nI j)), (3, .int (nI (lnM M.ki r))), (2, .int (bI b)), (0, .ref (mo 0)), (1, .int (nI r))] → W p l e (headSpec wM_comes ({ frames := 1, cells := 0, slots := 0, locals := 27 })).room s m ([.ref (mo 0), .int (nI r)] : List Value).toArray below meth c H locs 0 0 (MQ below (wQ (some (.int (bI (cmM M r).1))) (dC, dI) vwCl (MW mo km ((cmM M r).2)) A) ([.ref (mo 0), .int (nI r)] : List Value).toArray s 0 0 A) (F0 m 123 ls [.int (bI (tuB M r j))]) := by
                    intro ls hl
                    refine lv_istore (lv' := [(6, .int (bI (tuB M r j))), (5, .int (nI ((M.co + M.ln) + j))), (4, .int (nI j)), (3, .int (nI (lnM M.ki r))), (2, .int (bI b)), (0, .ref (mo 0)), (1, .int (nI r))]) hx hb dM_comes_123 hl (by decide) rfl (fun ls hl => ?_)
                    refine lv_iconst (v := nI 0) hx hb dM_comes_125 (by decide) ?_
                    refine lv_istore (lv' := [(7, .int (nI 0)), (6, .int (bI (tuB M r j))), (5, .int (nI ((M.co + M.ln) + j))), (4, .int (nI j)), (3, .int (nI (lnM M.ki r))), (2, .int (bI b)), (0, .ref (mo 0)), (1, .int (nI r))]) hx hb dM_comes_126 hl (by decide) rfl (fun ls hl => ?_)
                    have loop128 : ∀ (n3 : Nat) (k3 : Nat) (t3 : Nat → Int64) (H : Heap) (locs : List Loc) (ls : Array Slot), (k3 + n3 = M.co + 1) → (cmI M r (M.co + M.ln + j) (tuB M r j) k3 n3 t3 = cmI M r (M.co + M.ln + j) (tuB M r j) 0 (M.co + 1) t) → va_P (dC, dI) vwCl (MW mo km (mTa M t3)) H → va_D A (MW mo km (mTa M t3)) → va_S A s.heap H locs → lv_has ls 9 [(7, .int (nI k3)), (6, .int (bI (tuB M r j))), (5, .int (nI (M.co + M.ln + j))), (4, .int (nI j)), (3, .int (nI (lnM M.ki r))), (2, .int (bI b)), (0, .ref (mo 0)), (1, .int (nI r))] → W p l e (headSpec wM_comes ({ frames := 1, cells := 0, slots := 0, locals := 27 })).room s m ([.ref (mo 0), .int (nI r)] : List Value).toArray below meth c H locs 0 0 (MQ below (wQ (some (.int (bI (cmM M r).1))) (dC, dI) vwCl (MW mo km ((cmM M r).2)) A) ([.ref (mo 0), .int (nI r)] : List Value).toArray s 0 0 A) (F0 m 128 ls []) := by
                      intro n3
                      induction n3 with
                      | zero =>
                        intro k3 t3 H locs ls hn3 hq3 hP hD hS hl
                        refine lv_iload hx hb dM_comes_128 (lv_at hl 0 rfl) ?_
                        refine lv_aload_n hx hb dM_comes_130 rfl (lv_at hl 6 rfl) ?_
                        refine va_get (D := (dC, dI)) (ci := 2) (v := .int (nI M.co)) (C := RM) (T := FM) (N := 19) hx hb hta iM hown hK hP 0 rfl rfl 2 (by decide) (hta _ m_494) (fun _ h9 => h9) rfl dM_comes_131 ?_
                        refine ni_gt (tgt := 197) hx hb dM_comes_134 (by decide) (by omega) (by omega) (fun c_4 => ?_) (fun c_4 => ?_)
                        · refine lv_iinc (v := nI (j + 1)) (lv' := [(4, .int (nI (j + 1))), (7, .int (nI k3)), (6, .int (bI (tuB M r j))), (5, .int (nI (M.co + M.ln + j))), (3, .int (nI (lnM M.ki r))), (2, .int (bI b)), (0, .ref (mo 0)), (1, .int (nI r))]) hx hb dM_comes_197 hl (k := 3) rfl (nI_add j 1) (by decide) rfl (fun ls hl => ?_)
                          refine lv_goto (tgt := 82) hx hb dM_comes_200 (by decide) ?_
                          exact ih82 (j + 1) (t3) H locs ls (by omega) (by rw [← hq2, cmO, show cmI M r (M.co + M.ln + j) (tuB M r j) 0 (M.co + 1) t = t3 from hq3.symm]) hP hD hS (lv_sub hl [0, 4, 5, 6, 7] rfl)
                        · exfalso; omega
                      | succ n3 ih128 =>
                        intro k3 t3 H locs ls hn3 hq3 hP hD hS hl
                        refine lv_iload hx hb dM_comes_128 (lv_at hl 0 rfl) ?_
                        refine lv_aload_n hx hb dM_comes_130 rfl (lv_at hl 6 rfl) ?_
                        refine va_get (D := (dC, dI)) (ci := 2) (v := .int (nI M.co)) (C := RM) (T := FM) (N := 19) hx hb hta iM hown hK hP 0 rfl rfl 2 (by decide) (hta _ m_494) (fun _ h9 => h9) rfl dM_comes_131 ?_
                        refine ni_gt (tgt := 197) hx hb dM_comes_134 (by decide) (by omega) (by omega) (fun c_5 => ?_) (fun c_5 => ?_)
                        · exfalso; omega
                        · have join153 : ∀ (ls : Array Slot), lv_has ls 9 [(7, .int (nI k3)), (6, .int (bI (tuB M r j))), (5, .int (nI (M.co + M.ln + j))), (4, .int (nI j)), (3, .int (nI (lnM M.ki r))), (2, .int (bI b)), (0, .ref (mo 0)), (1, .int (nI r))] → W p l e (headSpec wM_comes ({ frames := 1, cells := 0, slots := 0, locals := 27 })).room s m ([.ref (mo 0), .int (nI r)] : List Value).toArray below meth c H locs 0 0 (MQ below (wQ (some (.int (bI (cmM M r).1))) (dC, dI) vwCl (MW mo km ((cmM M r).2)) A) ([.ref (mo 0), .int (nI r)] : List Value).toArray s 0 0 A) (F0 m 153 ls [.int (nI (atK M.co k3))]) := by
                            intro ls hl
                            have hat : atK M.co k3 < 13 := by unfold atK; split <;> omega
                            refine lv_istore (lv' := [(8, .int (nI (atK M.co k3))), (7, .int (nI k3)), (6, .int (bI (tuB M r j))), (5, .int (nI (M.co + M.ln + j))), (4, .int (nI j)), (3, .int (nI (lnM M.ki r))), (2, .int (bI b)), (0, .ref (mo 0)), (1, .int (nI r))]) hx hb dM_comes_153 hl (by decide) rfl (fun ls hl => ?_)
                            refine lv_aload_n hx hb dM_comes_155 rfl (lv_at hl 7 rfl) ?_
                            refine va_get (D := (dC, dI)) (ci := 2) (v := .ref (mo 9)) (C := RM) (T := FM) (N := 19) hx hb hta iM hown hK hP 0 rfl rfl 16 (by decide) (hta _ m_508) (fun _ h9 => h9) rfl dM_comes_156 ?_
                            refine lv_bipush (v := nI 13) hx hb dM_comes_159 (by decide) ?_
                            refine lv_iload hx hb dM_comes_161 (lv_at hl 3 rfl) ?_
                            refine lv_imul hx hb dM_comes_163 ?_
                            refine st_i (y := nI (13 * (M.co + M.ln + j))) (pk_mul _ _) ?_
                            refine lv_iload hx hb dM_comes_164 (lv_at hl 0 rfl) ?_
                            refine lv_iadd hx hb dM_comes_166 ?_
                            refine st_i (y := nI ((13 * (M.co + M.ln + j)) + (atK M.co k3))) (nI_add _ _) ?_
                            refine lv_iload hx hb dM_comes_167 (lv_at hl 2 rfl) ?_
                            refine lb_eq (tgt := 183) hx hb dM_comes_169 (by decide) (fun h9 => ?_) (fun h9 => ?_)
                            · refine lv_aload_n hx hb dM_comes_183 rfl (lv_at hl 7 rfl) ?_
                              refine lv_iload_n hx hb dM_comes_184 rfl (lv_at hl 8 rfl) ?_
                              refine lv_iload hx hb dM_comes_185 (lv_at hl 0 rfl) ?_
                              refine rd_call (va_runV (As := [.int (nI r), .int (nI (atK M.co k3))]) (rest := [.int (nI ((13 * (M.co + M.ln + j)) + (atK M.co k3))), .ref (mo 9)]) ⟨hx, hb, hml, hown, hta⟩ (c_M_sum l dC dI mo km (mTa M t3) r (atK M.co k3) (by first | omega | assumption) (by first | omega | assumption) (by first | omega | assumption) (by first | omega | assumption)) (cwV 2 hta (gV m_607 m_609 mp_44 m_4 m_610) rfl rfl rfl (by decide +kernel) ⟨Nat.le_of_ble_eq_true rfl, Nat.le_of_ble_eq_true rfl⟩) (rd_V xT_ok trivial hK hP (ci := 2) (q0 := 0) rfl rfl) rfl rfl hl.1 rfl (lv_room (Nat.le_of_ble_eq_true rfl)) dM_comes_187 ⟨Nat.zero_le _, Nat.zero_le _⟩) ?_
                              refine W.eq (g2 := F0 m 190 ls [.long (suM (mTa M t3) r (atK M.co k3)), .int (nI ((13 * (M.co + M.ln + j)) + (atK M.co k3))), .ref (mo 9)]) rfl ?_
                              refine na_last hx hb hK hP hD hS 9 8 rfl rfl (i := ((13 * (M.co + M.ln + j)) + (atK M.co k3))) (x := suM (mTa M t3) r (atK M.co k3)) (by omega) (by decide) dM_comes_190 (fun H locs hP hD hS => ?_)
                              have hP : va_P (dC, dI) vwCl (MW mo km (mTa M (vp_updL t3 ((13 * (M.co + M.ln + j)) + (atK M.co k3)) (suM (mTa M t3) r (atK M.co k3))))) H := hP
                              have hD : va_D A (MW mo km (mTa M (vp_updL t3 ((13 * (M.co + M.ln + j)) + (atK M.co k3)) (suM (mTa M t3) r (atK M.co k3))))) := hD
                              refine lv_iinc (v := nI (k3 + 1)) (lv' := [(7, .int (nI (k3 + 1))), (8, .int (nI (atK M.co k3))), (6, .int (bI (tuB M r j))), (5, .int (nI (M.co + M.ln + j))), (4, .int (nI j)), (3, .int (nI (lnM M.ki r))), (2, .int (bI b)), (0, .ref (mo 0)), (1, .int (nI r))]) hx hb dM_comes_191 hl (k := 1) rfl (nI_add k3 1) (by decide) rfl (fun ls hl => ?_)
                              refine lv_goto (tgt := 128) hx hb dM_comes_194 (by decide) ?_
                              exact ih128 (k3 + 1) (vp_updL t3 ((13 * (M.co + M.ln + j)) + (atK M.co k3)) (suM (mTa M t3) r (atK M.co k3))) H locs ls (by omega) (by rw [← hq3, cmI, cmX]; first | (rw [if_pos h9]; done) | (rw [if_neg (by rw [h9]; decide)]; done)) hP hD hS (lv_sub hl [0, 2, 3, 4, 5, 6, 7, 8] rfl)
                            · refine lv_aload_n hx hb dM_comes_172 rfl (lv_at hl 7 rfl) ?_
                              refine lv_iload_n hx hb dM_comes_173 rfl (lv_at hl 8 rfl) ?_
                              refine lv_iload hx hb dM_comes_174 (lv_at hl 0 rfl) ?_
                              refine rd_call (va_runV (As := [.int (nI r), .int (nI (atK M.co k3))]) (rest := [.int (nI ((13 * (M.co + M.ln + j)) + (atK M.co k3))), .ref (mo 9)]) ⟨hx, hb, hml, hown, hta⟩ (c_M_sum l dC dI mo km (mTa M t3) r (atK M.co k3) (by first | omega | assumption) (by first | omega | assumption) (by first | omega | assumption) (by first | omega | assumption)) (cwV 2 hta (gV m_607 m_609 mp_44 m_4 m_610) rfl rfl rfl (by decide +kernel) ⟨Nat.le_of_ble_eq_true rfl, Nat.le_of_ble_eq_true rfl⟩) (rd_V xT_ok trivial hK hP (ci := 2) (q0 := 0) rfl rfl) rfl rfl hl.1 rfl (lv_room (Nat.le_of_ble_eq_true rfl)) dM_comes_176 ⟨Nat.zero_le _, Nat.zero_le _⟩) ?_
                              refine W.eq (g2 := F0 m 179 ls [.long (suM (mTa M t3) r (atK M.co k3)), .int (nI ((13 * (M.co + M.ln + j)) + (atK M.co k3))), .ref (mo 9)]) rfl ?_
                              refine lv_lneg hx hb dM_comes_179 ?_
                              refine lv_goto (tgt := 190) hx hb dM_comes_180 (by decide) ?_
                              refine na_last hx hb hK hP hD hS 9 8 rfl rfl (i := ((13 * (M.co + M.ln + j)) + (atK M.co k3))) (x := -(suM (mTa M t3) r (atK M.co k3))) (by omega) (by decide) dM_comes_190 (fun H locs hP hD hS => ?_)
                              have hP : va_P (dC, dI) vwCl (MW mo km (mTa M (vp_updL t3 ((13 * (M.co + M.ln + j)) + (atK M.co k3)) (-(suM (mTa M t3) r (atK M.co k3)))))) H := hP
                              have hD : va_D A (MW mo km (mTa M (vp_updL t3 ((13 * (M.co + M.ln + j)) + (atK M.co k3)) (-(suM (mTa M t3) r (atK M.co k3)))))) := hD
                              refine lv_iinc (v := nI (k3 + 1)) (lv' := [(7, .int (nI (k3 + 1))), (8, .int (nI (atK M.co k3))), (6, .int (bI (tuB M r j))), (5, .int (nI (M.co + M.ln + j))), (4, .int (nI j)), (3, .int (nI (lnM M.ki r))), (2, .int (bI b)), (0, .ref (mo 0)), (1, .int (nI r))]) hx hb dM_comes_191 hl (k := 1) rfl (nI_add k3 1) (by decide) rfl (fun ls hl => ?_)
                              refine lv_goto (tgt := 128) hx hb dM_comes_194 (by decide) ?_
                              exact ih128 (k3 + 1) (vp_updL t3 ((13 * (M.co + M.ln + j)) + (atK M.co k3)) (-(suM (mTa M t3) r (atK M.co k3)))) H locs ls (by omega) (by rw [← hq3, cmI, cmX]; first | (rw [if_pos h9]; done) | (rw [if_neg (by rw [h9]; decide)]; done)) hP hD hS (lv_sub hl [0, 2, 3, 4, 5, 6, 7, 8] rfl)
                          refine lv_iload hx hb dM_comes_137 (lv_at hl 0 rfl) ?_
                          refine lv_aload_n hx hb dM_comes_139 rfl (lv_at hl 6 rfl) ?_
                          refine va_get (D := (dC, dI)) (ci := 2) (v := .int (nI M.co)) (C := RM) (T := FM) (N := 19) hx hb hta iM hown hK hP 0 rfl rfl 2 (by decide) (hta _ m_494) (fun _ h9 => h9) rfl dM_comes_140 ?_
                          refine ni_ne (tgt := 151) hx hb dM_comes_143 (by decide) (by omega) (by omega) (fun h8 => ?_) (fun h8 => ?_)
                          · refine lv_iload hx hb dM_comes_151 (lv_at hl 0 rfl) ?_
                            refine st_i (y := nI (atK M.co k3)) (by first | (rw [atK, if_pos (by assumption)]; done) | (rw [atK, if_neg (by assumption)]; done)) ?_
                            exact join153 ls (lv_sub hl [0, 1, 2, 3, 4, 5, 6, 7] rfl)
                          · refine lv_bipush (v := nI 12) hx hb dM_comes_146 (by decide) ?_
                            refine lv_goto (tgt := 153) hx hb dM_comes_148 (by decide) ?_
                            refine st_i (y := nI (atK M.co k3)) (by first | (rw [atK, if_pos (by assumption)]; done) | (rw [atK, if_neg (by assumption)]; done)) ?_
                            exact join153 ls (lv_sub hl [0, 1, 2, 3, 4, 5, 6, 7] rfl)
                    exact loop128 (M.co + 1) 0 t H locs ls (by omega) rfl hP hD hS (lv_sub hl [0, 1, 2, 3, 4, 5, 6, 7] rfl)
                  refine lv_aload_n hx hb dM_comes_102 rfl (lv_at hl 4 rfl) ?_
                  refine va_get (D := (dC, dI)) (ci := 2) (v := .ref (mo 2)) (C := RM) (T := FM) (N := 19) hx hb hta iM hown hK hP 0 rfl rfl 5 (by decide) (hta _ m_497) (fun _ h9 => h9) rfl dM_comes_103 ?_
                  refine lv_iload_n hx hb dM_comes_106 rfl (lv_at hl 5 rfl) ?_
                  refine na_iald hx hb hK hP 2 1 rfl rfl (i := r) (by omega) (by decide) dM_comes_107 ?_
                  refine lv_iconst (v := 1) hx hb dM_comes_108 (by decide) ?_
                  refine lv_icmp_eq (tgt := 118) hx hb dM_comes_109 (by decide) (fun h6 => ?_) (fun h6 => ?_)
                  · have h6 : M.ki r = 1 := h6
                    refine lv_iconst (v := 1) hx hb dM_comes_118 (by decide) ?_
                    refine lv_goto (tgt := 123) hx hb dM_comes_119 (by decide) ?_
                    refine st_i (y := bI (tuB M r j)) (by first | (rw [tuB, decide_eq_true h6]; rfl; done) | (rw [tuB, decide_eq_false h6, decide_eq_true h7]; rfl; done) | (rw [tuB, decide_eq_false h6, decide_eq_false h7]; rfl; done)) ?_
                    exact join123 ls (lv_sub hl [0, 1, 2, 3, 4, 5] rfl)
                  · have h6 : ¬ M.ki r = 1 := h6
                    refine lv_iload hx hb dM_comes_112 (lv_at hl 1 rfl) ?_
                    refine lv_iconst (v := nI 1) hx hb dM_comes_114 (by decide) ?_
                    refine ni_ne (tgt := 122) hx hb dM_comes_115 (by decide) (by omega) (by omega) (fun h7 => ?_) (fun h7 => ?_)
                    · refine lv_iconst (v := 0) hx hb dM_comes_122 (by decide) ?_
                      refine st_i (y := bI (tuB M r j)) (by first | (rw [tuB, decide_eq_true h6]; rfl; done) | (rw [tuB, decide_eq_false h6, decide_eq_true h7]; rfl; done) | (rw [tuB, decide_eq_false h6, decide_eq_false h7]; rfl; done)) ?_
                      exact join123 ls (lv_sub hl [0, 1, 2, 3, 4, 5] rfl)
                    · refine lv_iconst (v := 1) hx hb dM_comes_118 (by decide) ?_
                      refine lv_goto (tgt := 123) hx hb dM_comes_119 (by decide) ?_
                      refine st_i (y := bI (tuB M r j)) (by first | (rw [tuB, decide_eq_true h6]; rfl; done) | (rw [tuB, decide_eq_false h6, decide_eq_true h7]; rfl; done) | (rw [tuB, decide_eq_false h6, decide_eq_false h7]; rfl; done)) ?_
                      exact join123 ls (lv_sub hl [0, 1, 2, 3, 4, 5] rfl)
            exact loop82 (lnM M.ki r) 0 M.ta s.heap [] ls (by omega) rfl hP hD hS (lv_sub hl [0, 1, 2, 3, 4] rfl)
          refine lv_aload_n hx hb dM_comes_63 rfl (lv_at hl 2 rfl) ?_
          refine va_get (D := (dC, dI)) (ci := 2) (v := .ref (mo 2)) (C := RM) (T := FM) (N := 19) hx hb hta iM hown hK hP 0 rfl rfl 5 (by decide) (hta _ m_497) (fun _ h9 => h9) rfl dM_comes_64 ?_
          refine lv_iload_n hx hb dM_comes_67 rfl (lv_at hl 3 rfl) ?_
          refine na_iald hx hb hK hP 2 1 rfl rfl (i := r) (by omega) (by decide) dM_comes_68 ?_
          refine lv_iconst (v := 2) hx hb dM_comes_69 (by decide) ?_
          refine lv_icmp_ne (tgt := 77) hx hb dM_comes_70 (by decide) (fun h5 => ?_) (fun h5 => ?_)
          · have eN : lnM M.ki r = 1 := if_neg h5
            refine lv_iconst (v := nI 1) hx hb dM_comes_77 (by decide) ?_
            refine st_i (y := nI (lnM M.ki r)) (by rw [eN]) ?_
            exact join78 ls (lv_sub hl [0, 1, 2, 3] rfl)
          · have eN : lnM M.ki r = 2 := if_pos h5
            refine lv_iconst (v := nI 2) hx hb dM_comes_73 (by decide) ?_
            refine lv_goto (tgt := 78) hx hb dM_comes_74 (by decide) ?_
            refine st_i (y := nI (lnM M.ki r)) (by rw [eN]) ?_
            exact join78 ls (lv_sub hl [0, 1, 2, 3] rfl)
        · have e9 : cmM M r = (false, M) := if_neg (by rw [← hq, show cmF M r i 0 b = false from hb9]; decide)
          refine lv_iconst (v := 0) hx hb dM_comes_61 (by decide) ?_
          exact W.zret (v := 0) hx hb hr (rfl) (fun t ht hW => ⟨congrArg (fun z => Outcome.returned (some (.int z))) (by rw [e9]; rfl), by rw [ht]; exact (by rw [e9]; exact hP), hS.F ht⟩) hS.2.2 dM_comes_62
      · exfalso; omega
    | succ n ih =>
      intro i b ls hn hq hl
      refine lv_iload_n hx hb dM_comes_4 rfl (lv_at hl 0 rfl) ?_
      refine lv_aload_n hx hb dM_comes_5 rfl (lv_at hl 2 rfl) ?_
      refine va_get (D := (dC, dI)) (ci := 2) (v := .int (nI M.co)) (C := RM) (T := FM) (N := 19) hx hb hta iM hown hK hP 0 rfl rfl 2 (by decide) (hta _ m_494) (fun _ h9 => h9) rfl dM_comes_6 ?_
      refine ni_gt (tgt := 57) hx hb dM_comes_9 (by decide) (by omega) (by omega) (fun c_6 => ?_) (fun c_6 => ?_)
      · exfalso; omega
      · have join26 : ∀ (ls : Array Slot), lv_has ls 9 [(3, .int (nI i)), (2, .int (bI b)), (0, .ref (mo 0)), (1, .int (nI r))] → W p l e (headSpec wM_comes ({ frames := 1, cells := 0, slots := 0, locals := 27 })).room s m ([.ref (mo 0), .int (nI r)] : List Value).toArray below meth c s.heap [] 0 0 (MQ below (wQ (some (.int (bI (cmM M r).1))) (dC, dI) vwCl (MW mo km ((cmM M r).2)) A) ([.ref (mo 0), .int (nI r)] : List Value).toArray s 0 0 A) (F0 m 26 ls [.int (nI (atK M.co i))]) := by
          intro ls hl
          have hat : atK M.co i < 13 := by unfold atK; split <;> omega
          refine lv_istore (lv' := [(4, .int (nI (atK M.co i))), (3, .int (nI i)), (2, .int (bI b)), (0, .ref (mo 0)), (1, .int (nI r))]) hx hb dM_comes_26 hl (by decide) rfl (fun ls hl => ?_)
          refine lv_iload_n hx hb dM_comes_28 rfl (lv_at hl 2 rfl) ?_
          refine lb_eq (tgt := 49) hx hb dM_comes_29 (by decide) (fun h2 => ?_) (fun h2 => ?_)
          · refine lv_iconst (v := 0) hx hb dM_comes_49 (by decide) ?_
            refine lv_istore_n (lv' := [(2, .int 0), (4, .int (nI (atK M.co i))), (3, .int (nI i)), (0, .ref (mo 0)), (1, .int (nI r))]) hx hb dM_comes_50 rfl hl (by decide) rfl (fun ls hl => ?_)
            refine lv_iinc (v := nI (i + 1)) (lv' := [(3, .int (nI (i + 1))), (2, .int 0), (4, .int (nI (atK M.co i))), (0, .ref (mo 0)), (1, .int (nI r))]) hx hb dM_comes_51 hl (k := 2) rfl (nI_add i 1) (by decide) rfl (fun ls hl => ?_)
            refine lv_goto (tgt := 4) hx hb dM_comes_54 (by decide) ?_
            exact ih (i + 1) false ls (by omega) (by rw [← hq, cmF]; first | (rw [h2]; rfl; done) | (rw [h2, h3]; rfl; done)) (lv_sub hl [0, 1, 3, 4] rfl)
          · refine lv_aload_n hx hb dM_comes_32 rfl (lv_at hl 3 rfl) ?_
            refine lv_iload_n hx hb dM_comes_33 rfl (lv_at hl 4 rfl) ?_
            refine lv_iload hx hb dM_comes_34 (lv_at hl 0 rfl) ?_
            refine rd_call (va_runV (As := [.int (nI r), .int (nI (atK M.co i))]) (rest := []) ⟨hx, hb, hml, hown, hta⟩ (c_M_sum l dC dI mo km M r (atK M.co i) (by first | omega | assumption) (by first | omega | assumption) (by first | omega | assumption) (by first | omega | assumption)) (cwV 2 hta (gV m_607 m_609 mp_44 m_4 m_610) rfl rfl rfl (by decide +kernel) ⟨Nat.le_of_ble_eq_true rfl, Nat.le_of_ble_eq_true rfl⟩) (rd_V xT_ok trivial hK hP (ci := 2) (q0 := 0) rfl rfl) rfl rfl hl.1 rfl (lv_room (Nat.le_of_ble_eq_true rfl)) dM_comes_36 ⟨Nat.zero_le _, Nat.zero_le _⟩) ?_
            refine W.eq (g2 := F0 m 39 ls [.long (suM M r (atK M.co i))]) rfl ?_
            refine rd_call (va_runS (As := [.long (suM M r (atK M.co i))]) (rest := []) ⟨hx, hb, hml, hown, hta⟩ (c_M_isGreat l dC dI mo km (suM M r (atK M.co i))) (cwS 1 hta (gS m_594 m_595 m_4 m_596) rfl rfl rfl (by decide +kernel) ⟨Nat.le_of_ble_eq_true rfl, Nat.le_of_ble_eq_true rfl⟩) (rd_S xT_ok trivial (hK.sub [] rfl) va_P_nil) rfl rfl hl.1 rfl (lv_room (Nat.le_of_ble_eq_true rfl)) dM_comes_39 ⟨Nat.zero_le _, Nat.zero_le _⟩) ?_
            refine W.eq (g2 := F0 m 42 ls [.int (bI (isGrB (suM M r (atK M.co i))))]) rfl ?_
            refine lb_ne (tgt := 49) hx hb dM_comes_42 (by decide) (fun h3 => ?_) (fun h3 => ?_)
            · refine lv_iconst (v := 0) hx hb dM_comes_49 (by decide) ?_
              refine lv_istore_n (lv' := [(2, .int 0), (4, .int (nI (atK M.co i))), (3, .int (nI i)), (0, .ref (mo 0)), (1, .int (nI r))]) hx hb dM_comes_50 rfl hl (by decide) rfl (fun ls hl => ?_)
              refine lv_iinc (v := nI (i + 1)) (lv' := [(3, .int (nI (i + 1))), (2, .int 0), (4, .int (nI (atK M.co i))), (0, .ref (mo 0)), (1, .int (nI r))]) hx hb dM_comes_51 hl (k := 2) rfl (nI_add i 1) (by decide) rfl (fun ls hl => ?_)
              refine lv_goto (tgt := 4) hx hb dM_comes_54 (by decide) ?_
              exact ih (i + 1) false ls (by omega) (by rw [← hq, cmF]; first | (rw [h2]; rfl; done) | (rw [h2, h3]; rfl; done)) (lv_sub hl [0, 1, 3, 4] rfl)
            · refine lv_iconst (v := 1) hx hb dM_comes_45 (by decide) ?_
              refine lv_goto (tgt := 50) hx hb dM_comes_46 (by decide) ?_
              refine lv_istore_n (lv' := [(2, .int 1), (4, .int (nI (atK M.co i))), (3, .int (nI i)), (0, .ref (mo 0)), (1, .int (nI r))]) hx hb dM_comes_50 rfl hl (by decide) rfl (fun ls hl => ?_)
              refine lv_iinc (v := nI (i + 1)) (lv' := [(3, .int (nI (i + 1))), (2, .int 1), (4, .int (nI (atK M.co i))), (0, .ref (mo 0)), (1, .int (nI r))]) hx hb dM_comes_51 hl (k := 2) rfl (nI_add i 1) (by decide) rfl (fun ls hl => ?_)
              refine lv_goto (tgt := 4) hx hb dM_comes_54 (by decide) ?_
              exact ih (i + 1) true ls (by omega) (by rw [← hq, cmF]; first | (rw [h2]; rfl; done) | (rw [h2, h3]; rfl; done)) (lv_sub hl [0, 1, 3, 4] rfl)
        refine lv_iload_n hx hb dM_comes_12 rfl (lv_at hl 0 rfl) ?_
        refine lv_aload_n hx hb dM_comes_13 rfl (lv_at hl 2 rfl) ?_
        refine va_get (D := (dC, dI)) (ci := 2) (v := .int (nI M.co)) (C := RM) (T := FM) (N := 19) hx hb hta iM hown hK hP 0 rfl rfl 2 (by decide) (hta _ m_494) (fun _ h9 => h9) rfl dM_comes_14 ?_
        refine ni_ne (tgt := 25) hx hb dM_comes_17 (by decide) (by omega) (by omega) (fun h1 => ?_) (fun h1 => ?_)
        · refine lv_iload_n hx hb dM_comes_25 rfl (lv_at hl 0 rfl) ?_
          refine st_i (y := nI (atK M.co i)) (by first | (rw [atK, if_pos (by assumption)]; done) | (rw [atK, if_neg (by assumption)]; done)) ?_
          exact join26 ls (lv_sub hl [0, 1, 2, 3] rfl)
        · refine lv_bipush (v := nI 12) hx hb dM_comes_20 (by decide) ?_
          refine lv_goto (tgt := 26) hx hb dM_comes_22 (by decide) ?_
          refine st_i (y := nI (atK M.co i)) (by first | (rw [atK, if_pos (by assumption)]; done) | (rw [atK, if_neg (by assumption)]; done)) ?_
          exact join26 ls (lv_sub hl [0, 1, 2, 3] rfl)
  exact loop4 (M.co + 1) 0 true ls (by omega) rfl (lv_sub hl [0, 1, 2, 3] rfl)
end
section
set_option maxHeartbeats 4000000 in
set_option maxRecDepth 100000 in
theorem c_M_step (l : Launch) (dC : Nat → ClassId) (dI : Nat → Nat → Nat) (mo : Nat → Nat) (km : Nat → ClassId) (M : MS) (sz : Nat) (le q : Nat) (hpl : ∀ v k, M.pl v = some k → k < 12) (hcl : M.co + M.ln ≤ 36) (hle : le < 36) (hq9 : q < 12) (hou : ∀ k, M.ou k < 36) (hdn : ¬ M.dn = 0) : Met l yM_step wM_step ({ frames := 1, cells := 0, slots := 0, locals := 21 }) (wPc [.ref (mo 0), .int (nI le), .int (nI q)] sz (dC, dI) vwCl (MW mo km M) (MK km) xT) (wQ (some (.int (bI (spM M le q).1))) (dC, dI) vwCl (MW mo km ((spM M le q).2)) (va_A (MW mo km M) sz)) 0 0 (va_A (MW mo km M) sz) := by
  refine Met.ofW (cc := bM_step) (maxL := 11) (ret := (some .boolean)) (by decide) rfl ?_
  intro p e s m args below meth c s₁ B hml hv
  obtain ⟨rfl, hsz, hP, hK, hD0, hX⟩ := hv
  have hx := B.exec
  have hb := B.bytes
  have hr := B.returns
  have hts := atoms_spec (ws := wM_step) B.pre
  have hta : ∀ w ∈ AW, w.before _ s = true := fun w h => hts w (List.mem_cons_of_mem _ h)
  have hown : s.vm.findClass RM = some m.cls := findClass_of_methodNamed B.named
  have hlocks := B.notSynchronized
  subst hsz
  have hD := hD0.self (sz := s.heap.size)
  generalize hAe : va_A (MW mo km M) s.heap.size = A at hD ⊢
  have hA : ∀ q : Nat, s.heap.size ≤ q → A q := fun q h => by rw [← hAe]; exact Or.inr h
  have hS : va_S A s.heap s.heap [] := va_S.rf
  have hl := lv_entry ([.ref (mo 0), .int (nI le), .int (nI q)]) (n := 11) (Nat.le_of_ble_eq_true rfl)
  rw [lg_entry_eq]
  generalize (lg_sl ([.ref (mo 0), .int (nI le), .int (nI q)]) ++ List.replicate (11 - (lg_sl ([.ref (mo 0), .int (nI le), .int (nI q)])).length) Slot.unset).toArray = ls at hl ⊢
  have hl : lv_has ls 11 [(0, .ref (mo 0)), (1, .int (nI le)), (2, .int (nI q))] := hl
  have hoq := hou q
  refine lv_aload_n hx hb dM_step_0 rfl (lv_at hl 0 rfl) ?_
  refine va_get (D := (dC, dI)) (ci := 2) (v := .ref (mo 9)) (C := RM) (T := FM) (N := 19) hx hb hta iM hown hK hP 0 rfl rfl 16 (by decide) (hta _ m_508) (fun _ h9 => h9) rfl dM_step_1 ?_
  refine lv_bipush (v := nI 13) hx hb dM_step_4 (by decide) ?_
  refine lv_iload_n hx hb dM_step_6 rfl (lv_at hl 1 rfl) ?_
  refine lv_imul hx hb dM_step_7 ?_
  refine st_i (y := nI (13 * le)) (pk_mul _ _) ?_
  refine lv_iload_n hx hb dM_step_8 rfl (lv_at hl 2 rfl) ?_
  refine lv_iadd hx hb dM_step_9 ?_
  refine st_i (y := nI ((13 * le) + q)) (nI_add _ _) ?_
  refine na_lald hx hb hK hP 9 8 rfl rfl (i := ((13 * le) + q)) (by omega) (by decide) dM_step_10 ?_
  refine lv_lstore_n (lv' := [(3, .long (M.ta ((13 * le) + q))), (0, .ref (mo 0)), (1, .int (nI le)), (2, .int (nI q))]) hx hb dM_step_11 rfl hl (by decide) rfl (fun ls hl => ?_)
  refine lv_aload_n hx hb dM_step_12 rfl (lv_at hl 1 rfl) ?_
  refine va_get (D := (dC, dI)) (ci := 2) (v := .ref (mo 8)) (C := RM) (T := FM) (N := 19) hx hb hta iM hown hK hP 0 rfl rfl 15 (by decide) (hta _ m_507) (fun _ h9 => h9) rfl dM_step_13 ?_
  refine lv_iload_n hx hb dM_step_16 rfl (lv_at hl 3 rfl) ?_
  refine na_iald hx hb hK hP 8 7 rfl rfl (i := q) (by omega) (by decide) dM_step_17 ?_
  refine W.eq (g2 := F0 m 18 ls [.int (nI (M.ou q))]) rfl ?_
  refine lv_istore (lv' := [(5, .int (nI (M.ou q))), (3, .long (M.ta ((13 * le) + q))), (0, .ref (mo 0)), (1, .int (nI le)), (2, .int (nI q))]) hx hb dM_step_18 hl (by decide) rfl (fun ls hl => ?_)
  have join32 : ∀ (ls : Array Slot), lv_has ls 11 [(5, .int (nI (M.ou q))), (3, .long (M.ta ((13 * le) + q))), (0, .ref (mo 0)), (1, .int (nI le)), (2, .int (nI q))] → W p l e (headSpec wM_step ({ frames := 1, cells := 0, slots := 0, locals := 21 })).room s m ([.ref (mo 0), .int (nI le), .int (nI q)] : List Value).toArray below meth c s.heap [] 0 0 (MQ below (wQ (some (.int (bI (spM M le q).1))) (dC, dI) vwCl (MW mo km ((spM M le q).2)) A) ([.ref (mo 0), .int (nI le), .int (nI q)] : List Value).toArray s 0 0 A) (F0 m 32 ls [.int (bI (!isGrB (M.ta (13 * le + q))))]) := by
    intro ls hl
    refine lv_istore (lv' := [(6, .int (bI (!isGrB (M.ta (13 * le + q))))), (5, .int (nI (M.ou q))), (3, .long (M.ta ((13 * le) + q))), (0, .ref (mo 0)), (1, .int (nI le)), (2, .int (nI q))]) hx hb dM_step_32 hl (by decide) rfl (fun ls hl => ?_)
    refine lv_iconst (v := nI 0) hx hb dM_step_34 (by decide) ?_
    refine lv_istore (lv' := [(7, .int (nI 0)), (6, .int (bI (!isGrB (M.ta (13 * le + q))))), (5, .int (nI (M.ou q))), (3, .long (M.ta ((13 * le) + q))), (0, .ref (mo 0)), (1, .int (nI le)), (2, .int (nI q))]) hx hb dM_step_35 hl (by decide) rfl (fun ls hl => ?_)
    have loop37 : ∀ (n : Nat) (v : Nat) (tx : Nat → Int64) (b : Bool) (H : Heap) (locs : List Loc) (ls : Array Slot), (v + n = 37) → (spO M le q v n tx b = spN M le q) → va_P (dC, dI) vwCl (MW mo km (mNx M tx)) H → va_D A (MW mo km (mNx M tx)) → va_S A s.heap H locs → lv_has ls 11 [(7, .int (nI v)), (6, .int (bI b)), (5, .int (nI (M.ou q))), (3, .long (M.ta (13 * le + q))), (0, .ref (mo 0)), (1, .int (nI le)), (2, .int (nI q))] → W p l e (headSpec wM_step ({ frames := 1, cells := 0, slots := 0, locals := 21 })).room s m ([.ref (mo 0), .int (nI le), .int (nI q)] : List Value).toArray below meth c H locs 0 0 (MQ below (wQ (some (.int (bI (spM M le q).1))) (dC, dI) vwCl (MW mo km ((spM M le q).2)) A) ([.ref (mo 0), .int (nI le), .int (nI q)] : List Value).toArray s 0 0 A) (F0 m 37 ls []) := by
      intro n
      induction n with
      | zero =>
        intro v tx b H locs ls hn hq hP hD hS hl
        refine lv_iload hx hb dM_step_37 (lv_at hl 0 rfl) ?_
        refine lv_bipush (v := nI 36) hx hb dM_step_39 (by decide) ?_
        refine ni_gt (tgt := 186) hx hb dM_step_41 (by decide) (by omega) (by omega) (fun c_1 => ?_) (fun c_1 => ?_)
        · have hq0 : spN M le q = (tx, b) := hq.symm
          refine lv_iload hx hb dM_step_186 (lv_at hl 1 rfl) ?_
          refine lb_ne (tgt := 193) hx hb dM_step_188 (by decide) (fun hb9 => ?_) (fun hb9 => ?_)
          · have e9 : spM M le q = (true, _) := if_pos (by rw [hq0]; exact hb9)
            refine lv_iconst (v := nI 0) hx hb dM_step_193 (by decide) ?_
            refine lv_istore (lv' := [(7, .int (nI 0)), (6, .int (bI b)), (5, .int (nI (M.ou q))), (3, .long (M.ta (13 * le + q))), (0, .ref (mo 0)), (1, .int (nI le)), (2, .int (nI q))]) hx hb dM_step_194 hl (by decide) rfl (fun ls hl => ?_)
            have loop196 : ∀ (n : Nat) (v : Nat) (u : Nat → Int64) (H : Heap) (locs : List Loc) (ls : Array Slot), (v + n = 37) → (cpO M tx le v n u = cpO M tx le 0 37 M.ta) → va_P (dC, dI) vwCl (MW mo km (mTn M u tx)) H → va_D A (MW mo km (mTn M u tx)) → va_S A s.heap H locs → lv_has ls 11 [(7, .int (nI v)), (5, .int (nI (M.ou q))), (3, .long (M.ta (13 * le + q))), (0, .ref (mo 0)), (1, .int (nI le)), (2, .int (nI q))] → W p l e (headSpec wM_step ({ frames := 1, cells := 0, slots := 0, locals := 21 })).room s m ([.ref (mo 0), .int (nI le), .int (nI q)] : List Value).toArray below meth c H locs 0 0 (MQ below (wQ (some (.int (bI (spM M le q).1))) (dC, dI) vwCl (MW mo km ((spM M le q).2)) A) ([.ref (mo 0), .int (nI le), .int (nI q)] : List Value).toArray s 0 0 A) (F0 m 196 ls []) := by
              intro n
              induction n with
              | zero =>
                intro v u H locs ls hn hq5 hP hD hS hl
                refine lv_iload hx hb dM_step_196 (lv_at hl 0 rfl) ?_
                refine lv_bipush (v := nI 36) hx hb dM_step_198 (by decide) ?_
                refine ni_gt (tgt := 266) hx hb dM_step_200 (by decide) (by omega) (by omega) (fun c_2 => ?_) (fun c_2 => ?_)
                · refine lv_iconst (v := nI 0) hx hb dM_step_266 (by decide) ?_
                  refine lv_istore (lv' := [(7, .int (nI 0)), (5, .int (nI (M.ou q))), (3, .long (M.ta (13 * le + q))), (0, .ref (mo 0)), (1, .int (nI le)), (2, .int (nI q))]) hx hb dM_step_267 hl (by decide) rfl (fun ls hl => ?_)
                  have loop269 : ∀ (n : Nat) (k3 : Nat) (u3 : Nat → Int64) (H : Heap) (locs : List Loc) (ls : Array Slot), (k3 + n = 13) → (teR M.dn le q (M.ou q) k3 n u3 = teR M.dn le q (M.ou q) 0 13 u) → va_P (dC, dI) vwCl (MW mo km (mTn M u3 tx)) H → va_D A (MW mo km (mTn M u3 tx)) → va_S A s.heap H locs → lv_has ls 11 [(7, .int (nI k3)), (5, .int (nI (M.ou q))), (3, .long (M.ta (13 * le + q))), (0, .ref (mo 0)), (1, .int (nI le)), (2, .int (nI q))] → W p l e (headSpec wM_step ({ frames := 1, cells := 0, slots := 0, locals := 21 })).room s m ([.ref (mo 0), .int (nI le), .int (nI q)] : List Value).toArray below meth c H locs 0 0 (MQ below (wQ (some (.int (bI (spM M le q).1))) (dC, dI) vwCl (MW mo km ((spM M le q).2)) A) ([.ref (mo 0), .int (nI le), .int (nI q)] : List Value).toArray s 0 0 A) (F0 m 269 ls []) := by
                    intro n
                    induction n with
                    | zero =>
                      intro k3 u3 H locs ls hn hq7 hP hD hS hl
                      refine lv_iload hx hb dM_step_269 (lv_at hl 0 rfl) ?_
                      refine lv_bipush (v := nI 12) hx hb dM_step_271 (by decide) ?_
                      refine ni_gt (tgt := 321) hx hb dM_step_273 (by decide) (by omega) (by omega) (fun c_3 => ?_) (fun c_3 => ?_)
                      · refine lv_aload_n hx hb dM_step_321 rfl (lv_at hl 3 rfl) ?_
                        refine va_get (D := (dC, dI)) (ci := 2) (v := .ref (mo 7)) (C := RM) (T := FM) (N := 19) hx hb hta iM hown hK hP 0 rfl rfl 14 (by decide) (hta _ m_506) (fun _ h9 => h9) rfl dM_step_322 ?_
                        refine lv_iload hx hb dM_step_325 (lv_at hl 1 rfl) ?_
                        refine lv_iconst (v := (-1)) hx hb dM_step_327 (by decide) ?_
                        refine na_iast hx hb hK hP hD hS 7 6 rfl rfl (i := (M.ou q)) (x := enc none) (by omega) (by decide) dM_step_328 (fun H locs hP hD hS => ?_)
                        rw [encF_up] at hP hD
                        have hP : va_P (dC, dI) vwCl (MW mo km (ms M.thr M.wk M.co M.cs M.ro M.ki M.wo M.ri M.fa M.li M.ln M.hr M.st M.dn (va_up M.pl (M.ou q) none) M.ou u3 tx M.ag)) H := hP
                        have hD : va_D A (MW mo km (ms M.thr M.wk M.co M.cs M.ro M.ki M.wo M.ri M.fa M.li M.ln M.hr M.st M.dn (va_up M.pl (M.ou q) none) M.ou u3 tx M.ag)) := hD
                        refine lv_aload_n hx hb dM_step_329 rfl (lv_at hl 3 rfl) ?_
                        refine va_get (D := (dC, dI)) (ci := 2) (v := .ref (mo 7)) (C := RM) (T := FM) (N := 19) hx hb hta iM hown hK hP 0 rfl rfl 14 (by decide) (hta _ m_506) (fun _ h9 => h9) rfl dM_step_330 ?_
                        refine lv_iload_n hx hb dM_step_333 rfl (lv_at hl 4 rfl) ?_
                        refine lv_iload_n hx hb dM_step_334 rfl (lv_at hl 5 rfl) ?_
                        refine na_iast hx hb hK hP hD hS 7 6 rfl rfl (i := le) (x := enc (some q)) (by omega) (by decide) dM_step_335 (fun H locs hP hD hS => ?_)
                        rw [encF_up] at hP hD
                        have hP : va_P (dC, dI) vwCl (MW mo km (ms M.thr M.wk M.co M.cs M.ro M.ki M.wo M.ri M.fa M.li M.ln M.hr M.st M.dn (va_up (va_up M.pl (M.ou q) none) le (some q)) M.ou u3 tx M.ag)) H := hP
                        have hD : va_D A (MW mo km (ms M.thr M.wk M.co M.cs M.ro M.ki M.wo M.ri M.fa M.li M.ln M.hr M.st M.dn (va_up (va_up M.pl (M.ou q) none) le (some q)) M.ou u3 tx M.ag)) := hD
                        refine lv_aload_n hx hb dM_step_336 rfl (lv_at hl 3 rfl) ?_
                        refine va_get (D := (dC, dI)) (ci := 2) (v := .ref (mo 8)) (C := RM) (T := FM) (N := 19) hx hb hta iM hown hK hP 0 rfl rfl 15 (by decide) (hta _ m_507) (fun _ h9 => h9) rfl dM_step_337 ?_
                        refine lv_iload_n hx hb dM_step_340 rfl (lv_at hl 5 rfl) ?_
                        refine lv_iload_n hx hb dM_step_341 rfl (lv_at hl 4 rfl) ?_
                        refine na_iast hx hb hK hP hD hS 8 7 rfl rfl (i := q) (x := nI le) (by omega) (by decide) dM_step_342 (fun H locs hP hD hS => ?_)
                        rw [nIF_up] at hP hD
                        have hP : va_P (dC, dI) vwCl (MW mo km (ms M.thr M.wk M.co M.cs M.ro M.ki M.wo M.ri M.fa M.li M.ln M.hr M.st M.dn (va_up (va_up M.pl (M.ou q) none) le (some q)) (va_up M.ou q le) u3 tx M.ag)) H := hP
                        have hD : va_D A (MW mo km (ms M.thr M.wk M.co M.cs M.ro M.ki M.wo M.ri M.fa M.li M.ln M.hr M.st M.dn (va_up (va_up M.pl (M.ou q) none) le (some q)) (va_up M.ou q le) u3 tx M.ag)) := hD
                        refine lv_aload_n hx hb dM_step_343 rfl (lv_at hl 3 rfl) ?_
                        refine lv_lload_n hx hb dM_step_344 rfl (lv_at hl 2 rfl) ?_
                        refine va_put (D := (dC, dI)) (ci := 2) (v := .long (M.ta (13 * le + q))) (ty := .long) (C := RM) (T := FM) (N := 19) hx hb hta iM tM tM_ok nM hown hK hP hD hS 0 rfl rfl 13 (by decide) (hta _ m_505) (fun _ h9 => h9) rfl (by decide +kernel) rfl rfl (Nat.le_of_ble_eq_true rfl) dM_step_345 (fun H locs hP hD hS => ?_)
                        have hP : va_P (dC, dI) vwCl (MW mo km (ms M.thr M.wk M.co M.cs M.ro M.ki M.wo M.ri M.fa M.li M.ln M.hr M.st (M.ta (13 * le + q)) (va_up (va_up M.pl (M.ou q) none) le (some q)) (va_up M.ou q le) u3 tx M.ag)) H := hP
                        have hD : va_D A (MW mo km (ms M.thr M.wk M.co M.cs M.ro M.ki M.wo M.ri M.fa M.li M.ln M.hr M.st (M.ta (13 * le + q)) (va_up (va_up M.pl (M.ou q) none) le (some q)) (va_up M.ou q le) u3 tx M.ag)) := hD
                        refine lv_aload_n hx hb dM_step_348 rfl (lv_at hl 3 rfl) ?_
                        refine lv_dup hx hb dM_step_349 rfl ?_
                        refine va_get (D := (dC, dI)) (ci := 2) (v := .int M.st) (C := RM) (T := FM) (N := 19) hx hb hta iM hown hK hP 0 rfl rfl 12 (by decide) (hta _ m_504) (fun _ h9 => h9) rfl dM_step_350 ?_
                        refine lv_iconst (v := 1) hx hb dM_step_353 (by decide) ?_
                        refine lv_iadd hx hb dM_step_354 ?_
                        refine va_put (D := (dC, dI)) (ci := 2) (v := .int (M.st + 1)) (ty := .int) (C := RM) (T := FM) (N := 19) hx hb hta iM tM tM_ok nM hown hK hP hD hS 0 rfl rfl 12 (by decide) (hta _ m_504) (fun _ h9 => h9) rfl (by decide +kernel) rfl rfl (Nat.le_of_ble_eq_true rfl) dM_step_355 (fun H locs hP hD hS => ?_)
                        have hP : va_P (dC, dI) vwCl (MW mo km (ms M.thr M.wk M.co M.cs M.ro M.ki M.wo M.ri M.fa M.li M.ln M.hr (M.st + 1) (M.ta (13 * le + q)) (va_up (va_up M.pl (M.ou q) none) le (some q)) (va_up M.ou q le) u3 tx M.ag)) H := hP
                        have hD : va_D A (MW mo km (ms M.thr M.wk M.co M.cs M.ro M.ki M.wo M.ri M.fa M.li M.ln M.hr (M.st + 1) (M.ta (13 * le + q)) (va_up (va_up M.pl (M.ou q) none) le (some q)) (va_up M.ou q le) u3 tx M.ag)) := hD
                        refine lv_iconst (v := 1) hx hb dM_step_358 (by decide) ?_
                        exact W.zret (v := 1) hx hb hr (rfl) (fun t ht hW => ⟨congrArg (fun z => Outcome.returned (some (.int z))) (by rw [e9]; rfl), by rw [ht]; exact (by rw [show spM M le q = (true, (ms M.thr M.wk M.co M.cs M.ro M.ki M.wo M.ri M.fa M.li M.ln M.hr (M.st + 1) (M.ta (13 * le + q)) (va_up (va_up M.pl (M.ou q) none) le (some q)) (va_up M.ou q le) u3 tx M.ag)) by (rw [e9, hq0]; rw [show cpO M tx le 0 37 M.ta = u from hq5.symm]; rw [show teR M.dn le q (M.ou q) 0 13 u = u3 from hq7.symm])]; exact hP), hS.F ht⟩) hS.2.2 dM_step_359
                      · exfalso; omega
                    | succ n ih =>
                      intro k3 u3 H locs ls hn hq7 hP hD hS hl
                      refine lv_iload hx hb dM_step_269 (lv_at hl 0 rfl) ?_
                      refine lv_bipush (v := nI 12) hx hb dM_step_271 (by decide) ?_
                      refine ni_gt (tgt := 321) hx hb dM_step_273 (by decide) (by omega) (by omega) (fun c_4 => ?_) (fun c_4 => ?_)
                      · exfalso; omega
                      · refine lv_aload_n hx hb dM_step_276 rfl (lv_at hl 3 rfl) ?_
                        refine va_get (D := (dC, dI)) (ci := 2) (v := .ref (mo 9)) (C := RM) (T := FM) (N := 19) hx hb hta iM hown hK hP 0 rfl rfl 16 (by decide) (hta _ m_508) (fun _ h9 => h9) rfl dM_step_277 ?_
                        refine lv_bipush (v := nI 13) hx hb dM_step_280 (by decide) ?_
                        refine lv_iload hx hb dM_step_282 (lv_at hl 1 rfl) ?_
                        refine lv_imul hx hb dM_step_284 ?_
                        refine st_i (y := nI (13 * (M.ou q))) (pk_mul _ _) ?_
                        refine lv_iload hx hb dM_step_285 (lv_at hl 0 rfl) ?_
                        refine lv_iadd hx hb dM_step_287 ?_
                        refine st_i (y := nI ((13 * (M.ou q)) + k3)) (nI_add _ _) ?_
                        refine lv_iload hx hb dM_step_288 (lv_at hl 0 rfl) ?_
                        refine lv_iload_n hx hb dM_step_290 rfl (lv_at hl 5 rfl) ?_
                        refine ni_ne (tgt := 301) hx hb dM_step_291 (by decide) (by omega) (by omega) (fun h8 => ?_) (fun h8 => ?_)
                        · refine lv_aload_n hx hb dM_step_301 rfl (lv_at hl 3 rfl) ?_
                          refine va_get (D := (dC, dI)) (ci := 2) (v := .ref (mo 9)) (C := RM) (T := FM) (N := 19) hx hb hta iM hown hK hP 0 rfl rfl 16 (by decide) (hta _ m_508) (fun _ h9 => h9) rfl dM_step_302 ?_
                          refine lv_bipush (v := nI 13) hx hb dM_step_305 (by decide) ?_
                          refine lv_iload_n hx hb dM_step_307 rfl (lv_at hl 4 rfl) ?_
                          refine lv_imul hx hb dM_step_308 ?_
                          refine st_i (y := nI (13 * le)) (pk_mul _ _) ?_
                          refine lv_iload hx hb dM_step_309 (lv_at hl 0 rfl) ?_
                          refine lv_iadd hx hb dM_step_311 ?_
                          refine st_i (y := nI ((13 * le) + k3)) (nI_add _ _) ?_
                          refine na_lald hx hb hK hP 9 8 rfl rfl (i := ((13 * le) + k3)) (by omega) (by decide) dM_step_312 ?_
                          refine lv_lneg hx hb dM_step_313 ?_
                          refine na_last hx hb hK hP hD hS 9 8 rfl rfl (i := ((13 * (M.ou q)) + k3)) (x := -(u3 ((13 * le) + k3))) (by omega) (by decide) dM_step_314 (fun H locs hP hD hS => ?_)
                          have hP : va_P (dC, dI) vwCl (MW mo km (mTn M (vp_updL u3 ((13 * (M.ou q)) + k3) (-(u3 ((13 * le) + k3)))) tx)) H := hP
                          have hD : va_D A (MW mo km (mTn M (vp_updL u3 ((13 * (M.ou q)) + k3) (-(u3 ((13 * le) + k3)))) tx)) := hD
                          refine lv_iinc (v := nI (k3 + 1)) (lv' := [(7, .int (nI (k3 + 1))), (5, .int (nI (M.ou q))), (3, .long (M.ta (13 * le + q))), (0, .ref (mo 0)), (1, .int (nI le)), (2, .int (nI q))]) hx hb dM_step_315 hl (k := 0) rfl (nI_add k3 1) (by decide) rfl (fun ls hl => ?_)
                          refine lv_goto (tgt := 269) hx hb dM_step_318 (by decide) ?_
                          exact ih (k3 + 1) (vp_updL u3 ((13 * (M.ou q)) + k3) (-(u3 ((13 * le) + k3)))) H locs ls (by omega) (by rw [← hq7, teR]; first | (rw [if_pos h8]; done) | (rw [if_neg h8]; done)) hP hD hS (lv_sub hl [0, 1, 2, 3, 4, 5] rfl)
                        · refine lv_aload_n hx hb dM_step_294 rfl (lv_at hl 3 rfl) ?_
                          refine va_get (D := (dC, dI)) (ci := 2) (v := .long M.dn) (C := RM) (T := FM) (N := 19) hx hb hta iM hown hK hP 0 rfl rfl 13 (by decide) (hta _ m_505) (fun _ h9 => h9) rfl dM_step_295 ?_
                          refine lv_goto (tgt := 314) hx hb dM_step_298 (by decide) ?_
                          refine na_last hx hb hK hP hD hS 9 8 rfl rfl (i := ((13 * (M.ou q)) + k3)) (x := M.dn) (by omega) (by decide) dM_step_314 (fun H locs hP hD hS => ?_)
                          have hP : va_P (dC, dI) vwCl (MW mo km (mTn M (vp_updL u3 ((13 * (M.ou q)) + k3) M.dn) tx)) H := hP
                          have hD : va_D A (MW mo km (mTn M (vp_updL u3 ((13 * (M.ou q)) + k3) M.dn) tx)) := hD
                          refine lv_iinc (v := nI (k3 + 1)) (lv' := [(7, .int (nI (k3 + 1))), (5, .int (nI (M.ou q))), (3, .long (M.ta (13 * le + q))), (0, .ref (mo 0)), (1, .int (nI le)), (2, .int (nI q))]) hx hb dM_step_315 hl (k := 0) rfl (nI_add k3 1) (by decide) rfl (fun ls hl => ?_)
                          refine lv_goto (tgt := 269) hx hb dM_step_318 (by decide) ?_
                          exact ih (k3 + 1) (vp_updL u3 ((13 * (M.ou q)) + k3) M.dn) H locs ls (by omega) (by rw [← hq7, teR]; first | (rw [if_pos h8]; done) | (rw [if_neg h8]; done)) hP hD hS (lv_sub hl [0, 1, 2, 3, 4, 5] rfl)
                  exact loop269 13 0 u H locs ls (by omega) rfl hP hD hS (lv_sub hl [0, 1, 2, 3, 4, 5] rfl)
                · exfalso; omega
              | succ n ih =>
                intro v u H locs ls hn hq5 hP hD hS hl
                refine lv_iload hx hb dM_step_196 (lv_at hl 0 rfl) ?_
                refine lv_bipush (v := nI 36) hx hb dM_step_198 (by decide) ?_
                refine ni_gt (tgt := 266) hx hb dM_step_200 (by decide) (by omega) (by omega) (fun c_5 => ?_) (fun c_5 => ?_)
                · exfalso; omega
                · refine lv_iconst (v := nI 0) hx hb dM_step_203 (by decide) ?_
                  refine lv_istore (lv' := [(8, .int (nI 0)), (7, .int (nI v)), (5, .int (nI (M.ou q))), (3, .long (M.ta (13 * le + q))), (0, .ref (mo 0)), (1, .int (nI le)), (2, .int (nI q))]) hx hb dM_step_204 hl (by decide) rfl (fun ls hl => ?_)
                  by_cases hv9 : inB M v = true ∧ v ≠ le
                  · have loop206 : ∀ (n2 : Nat) (k2 : Nat) (u2 : Nat → Int64) (H : Heap) (locs : List Loc) (ls : Array Slot), (k2 + n2 = 13) → (cpI tx v k2 n2 u2 = cpI tx v 0 13 u) → va_P (dC, dI) vwCl (MW mo km (mTn M u2 tx)) H → va_D A (MW mo km (mTn M u2 tx)) → va_S A s.heap H locs → lv_has ls 11 [(8, .int (nI k2)), (7, .int (nI v)), (5, .int (nI (M.ou q))), (3, .long (M.ta (13 * le + q))), (0, .ref (mo 0)), (1, .int (nI le)), (2, .int (nI q))] → W p l e (headSpec wM_step ({ frames := 1, cells := 0, slots := 0, locals := 21 })).room s m ([.ref (mo 0), .int (nI le), .int (nI q)] : List Value).toArray below meth c H locs 0 0 (MQ below (wQ (some (.int (bI (spM M le q).1))) (dC, dI) vwCl (MW mo km ((spM M le q).2)) A) ([.ref (mo 0), .int (nI le), .int (nI q)] : List Value).toArray s 0 0 A) (F0 m 206 ls []) := by
                      intro n2
                      induction n2 with
                      | zero =>
                        intro k2 u2 H locs ls hn2 hq6 hP hD hS hl
                        refine lv_aload_n hx hb dM_step_206 rfl (lv_at hl 4 rfl) ?_
                        refine lv_iload hx hb dM_step_207 (lv_at hl 1 rfl) ?_
                        refine rd_call (va_runV (As := [.int (nI v)]) (rest := []) ⟨hx, hb, hml, hown, hta⟩ (c_M_isInside l dC dI mo km (mTn M u2 tx) v (by first | omega | assumption) (by first | omega | assumption) (by first | omega | assumption)) (cwV 1 hta (gV m_586 m_588 mp_41 m_4 m_589) rfl rfl rfl (by decide +kernel) ⟨Nat.le_of_ble_eq_true rfl, Nat.le_of_ble_eq_true rfl⟩) (rd_V xT_ok trivial hK hP (ci := 2) (q0 := 0) rfl rfl) rfl rfl hl.1 rfl (lv_room (Nat.le_of_ble_eq_true rfl)) dM_step_209 ⟨Nat.zero_le _, Nat.zero_le _⟩) ?_
                        refine W.eq (g2 := F0 m 212 ls [.int (bI (inB (mTn M u2 tx) v))]) rfl ?_
                        refine lb_eq (tgt := 260) hx hb dM_step_212 (by decide) (fun hi => ?_) (fun hi => ?_)
                        · exact absurd (hv9.1.symm.trans hi) (by decide)
                        · refine lv_iload hx hb dM_step_215 (lv_at hl 1 rfl) ?_
                          refine lv_iload_n hx hb dM_step_217 rfl (lv_at hl 5 rfl) ?_
                          refine ni_eq (tgt := 260) hx hb dM_step_218 (by decide) (by omega) (by omega) (fun h1 => ?_) (fun h1 => ?_)
                          · exact absurd h1 hv9.2
                          · refine lv_iload hx hb dM_step_221 (lv_at hl 0 rfl) ?_
                            refine lv_bipush (v := nI 12) hx hb dM_step_223 (by decide) ?_
                            refine ni_gt (tgt := 260) hx hb dM_step_225 (by decide) (by omega) (by omega) (fun c_6 => ?_) (fun c_6 => ?_)
                            · refine lv_iinc (v := nI (v + 1)) (lv' := [(7, .int (nI (v + 1))), (8, .int (nI k2)), (5, .int (nI (M.ou q))), (3, .long (M.ta (13 * le + q))), (0, .ref (mo 0)), (1, .int (nI le)), (2, .int (nI q))]) hx hb dM_step_260 hl (k := 1) rfl (nI_add v 1) (by decide) rfl (fun ls hl => ?_)
                              refine lv_goto (tgt := 196) hx hb dM_step_263 (by decide) ?_
                              exact ih (v + 1) u2 H locs ls (by omega) (by rw [← hq5, cpO, if_pos hv9, show cpI tx v 0 13 u = u2 from hq6.symm]) hP hD hS (lv_sub hl [0, 2, 3, 4, 5, 6] rfl)
                            · exfalso; omega
                      | succ n2 ih206 =>
                        intro k2 u2 H locs ls hn2 hq6 hP hD hS hl
                        refine lv_aload_n hx hb dM_step_206 rfl (lv_at hl 4 rfl) ?_
                        refine lv_iload hx hb dM_step_207 (lv_at hl 1 rfl) ?_
                        refine rd_call (va_runV (As := [.int (nI v)]) (rest := []) ⟨hx, hb, hml, hown, hta⟩ (c_M_isInside l dC dI mo km (mTn M u2 tx) v (by first | omega | assumption) (by first | omega | assumption) (by first | omega | assumption)) (cwV 1 hta (gV m_586 m_588 mp_41 m_4 m_589) rfl rfl rfl (by decide +kernel) ⟨Nat.le_of_ble_eq_true rfl, Nat.le_of_ble_eq_true rfl⟩) (rd_V xT_ok trivial hK hP (ci := 2) (q0 := 0) rfl rfl) rfl rfl hl.1 rfl (lv_room (Nat.le_of_ble_eq_true rfl)) dM_step_209 ⟨Nat.zero_le _, Nat.zero_le _⟩) ?_
                        refine W.eq (g2 := F0 m 212 ls [.int (bI (inB (mTn M u2 tx) v))]) rfl ?_
                        refine lb_eq (tgt := 260) hx hb dM_step_212 (by decide) (fun hi => ?_) (fun hi => ?_)
                        · exact absurd (hv9.1.symm.trans hi) (by decide)
                        · refine lv_iload hx hb dM_step_215 (lv_at hl 1 rfl) ?_
                          refine lv_iload_n hx hb dM_step_217 rfl (lv_at hl 5 rfl) ?_
                          refine ni_eq (tgt := 260) hx hb dM_step_218 (by decide) (by omega) (by omega) (fun h1 => ?_) (fun h1 => ?_)
                          · exact absurd h1 hv9.2
                          · refine lv_iload hx hb dM_step_221 (lv_at hl 0 rfl) ?_
                            refine lv_bipush (v := nI 12) hx hb dM_step_223 (by decide) ?_
                            refine ni_gt (tgt := 260) hx hb dM_step_225 (by decide) (by omega) (by omega) (fun c_7 => ?_) (fun c_7 => ?_)
                            · exfalso; omega
                            · refine lv_aload_n hx hb dM_step_228 rfl (lv_at hl 4 rfl) ?_
                              refine va_get (D := (dC, dI)) (ci := 2) (v := .ref (mo 9)) (C := RM) (T := FM) (N := 19) hx hb hta iM hown hK hP 0 rfl rfl 16 (by decide) (hta _ m_508) (fun _ h9 => h9) rfl dM_step_229 ?_
                              refine lv_bipush (v := nI 13) hx hb dM_step_232 (by decide) ?_
                              refine lv_iload hx hb dM_step_234 (lv_at hl 1 rfl) ?_
                              refine lv_imul hx hb dM_step_236 ?_
                              refine st_i (y := nI (13 * v)) (pk_mul _ _) ?_
                              refine lv_iload hx hb dM_step_237 (lv_at hl 0 rfl) ?_
                              refine lv_iadd hx hb dM_step_239 ?_
                              refine st_i (y := nI ((13 * v) + k2)) (nI_add _ _) ?_
                              refine lv_aload_n hx hb dM_step_240 rfl (lv_at hl 4 rfl) ?_
                              refine va_get (D := (dC, dI)) (ci := 2) (v := .ref (mo 10)) (C := RM) (T := FM) (N := 19) hx hb hta iM hown hK hP 0 rfl rfl 17 (by decide) (hta _ m_509) (fun _ h9 => h9) rfl dM_step_241 ?_
                              refine lv_bipush (v := nI 13) hx hb dM_step_244 (by decide) ?_
                              refine lv_iload hx hb dM_step_246 (lv_at hl 1 rfl) ?_
                              refine lv_imul hx hb dM_step_248 ?_
                              refine st_i (y := nI (13 * v)) (pk_mul _ _) ?_
                              refine lv_iload hx hb dM_step_249 (lv_at hl 0 rfl) ?_
                              refine lv_iadd hx hb dM_step_251 ?_
                              refine st_i (y := nI ((13 * v) + k2)) (nI_add _ _) ?_
                              refine na_lald hx hb hK hP 10 9 rfl rfl (i := ((13 * v) + k2)) (by omega) (by decide) dM_step_252 ?_
                              refine na_last hx hb hK hP hD hS 9 8 rfl rfl (i := ((13 * v) + k2)) (x := tx ((13 * v) + k2)) (by omega) (by decide) dM_step_253 (fun H locs hP hD hS => ?_)
                              have hP : va_P (dC, dI) vwCl (MW mo km (mTn M (vp_updL u2 ((13 * v) + k2) (tx ((13 * v) + k2))) tx)) H := hP
                              have hD : va_D A (MW mo km (mTn M (vp_updL u2 ((13 * v) + k2) (tx ((13 * v) + k2))) tx)) := hD
                              refine lv_iinc (v := nI (k2 + 1)) (lv' := [(8, .int (nI (k2 + 1))), (7, .int (nI v)), (5, .int (nI (M.ou q))), (3, .long (M.ta (13 * le + q))), (0, .ref (mo 0)), (1, .int (nI le)), (2, .int (nI q))]) hx hb dM_step_254 hl (k := 0) rfl (nI_add k2 1) (by decide) rfl (fun ls hl => ?_)
                              refine lv_goto (tgt := 206) hx hb dM_step_257 (by decide) ?_
                              exact ih206 (k2 + 1) (vp_updL u2 ((13 * v) + k2) (tx ((13 * v) + k2))) H locs ls (by omega) (by rw [← hq6]; rfl) hP hD hS (lv_sub hl [0, 1, 2, 3, 4, 5, 6] rfl)
                    exact loop206 13 0 u H locs ls (by omega) rfl hP hD hS (lv_sub hl [0, 1, 2, 3, 4, 5, 6] rfl)
                  · refine lv_aload_n hx hb dM_step_206 rfl (lv_at hl 4 rfl) ?_
                    refine lv_iload hx hb dM_step_207 (lv_at hl 1 rfl) ?_
                    refine rd_call (va_runV (As := [.int (nI v)]) (rest := []) ⟨hx, hb, hml, hown, hta⟩ (c_M_isInside l dC dI mo km (mTn M u tx) v (by first | omega | assumption) (by first | omega | assumption) (by first | omega | assumption)) (cwV 1 hta (gV m_586 m_588 mp_41 m_4 m_589) rfl rfl rfl (by decide +kernel) ⟨Nat.le_of_ble_eq_true rfl, Nat.le_of_ble_eq_true rfl⟩) (rd_V xT_ok trivial hK hP (ci := 2) (q0 := 0) rfl rfl) rfl rfl hl.1 rfl (lv_room (Nat.le_of_ble_eq_true rfl)) dM_step_209 ⟨Nat.zero_le _, Nat.zero_le _⟩) ?_
                    refine W.eq (g2 := F0 m 212 ls [.int (bI (inB (mTn M u tx) v))]) rfl ?_
                    refine lb_eq (tgt := 260) hx hb dM_step_212 (by decide) (fun hi => ?_) (fun hi => ?_)
                    · refine lv_iinc (v := nI (v + 1)) (lv' := [(7, .int (nI (v + 1))), (8, .int (nI 0)), (5, .int (nI (M.ou q))), (3, .long (M.ta (13 * le + q))), (0, .ref (mo 0)), (1, .int (nI le)), (2, .int (nI q))]) hx hb dM_step_260 hl (k := 1) rfl (nI_add v 1) (by decide) rfl (fun ls hl => ?_)
                      refine lv_goto (tgt := 196) hx hb dM_step_263 (by decide) ?_
                      exact ih (v + 1) u H locs ls (by omega) (by rw [← hq5, cpO, if_neg hv9]) hP hD hS (lv_sub hl [0, 2, 3, 4, 5, 6] rfl)
                    · refine lv_iload hx hb dM_step_215 (lv_at hl 1 rfl) ?_
                      refine lv_iload_n hx hb dM_step_217 rfl (lv_at hl 5 rfl) ?_
                      refine ni_eq (tgt := 260) hx hb dM_step_218 (by decide) (by omega) (by omega) (fun h1 => ?_) (fun h1 => ?_)
                      · refine lv_iinc (v := nI (v + 1)) (lv' := [(7, .int (nI (v + 1))), (8, .int (nI 0)), (5, .int (nI (M.ou q))), (3, .long (M.ta (13 * le + q))), (0, .ref (mo 0)), (1, .int (nI le)), (2, .int (nI q))]) hx hb dM_step_260 hl (k := 1) rfl (nI_add v 1) (by decide) rfl (fun ls hl => ?_)
                        refine lv_goto (tgt := 196) hx hb dM_step_263 (by decide) ?_
                        exact ih (v + 1) u H locs ls (by omega) (by rw [← hq5, cpO, if_neg hv9]) hP hD hS (lv_sub hl [0, 2, 3, 4, 5, 6] rfl)
                      · exact absurd ⟨hi, h1⟩ hv9
            exact loop196 37 0 M.ta H locs ls (by omega) rfl hP hD hS (lv_sub hl [0, 2, 3, 4, 5, 6] rfl)
          · have e9 : spM M le q = (false, mNx M (spN M le q).1) := if_neg (by rw [hq0]; exact fun z => absurd (hb9.symm.trans z) (by decide))
            refine lv_iconst (v := 0) hx hb dM_step_191 (by decide) ?_
            exact W.zret (v := 0) hx hb hr (rfl) (fun t ht hW => ⟨congrArg (fun z => Outcome.returned (some (.int z))) (by rw [e9]; rfl), by rw [ht]; exact (by rw [e9, hq0]; exact hP), hS.F ht⟩) hS.2.2 dM_step_192
        · exfalso; omega
      | succ n ih =>
        intro v tx b H locs ls hn hq hP hD hS hl
        refine lv_iload hx hb dM_step_37 (lv_at hl 0 rfl) ?_
        refine lv_bipush (v := nI 36) hx hb dM_step_39 (by decide) ?_
        refine ni_gt (tgt := 186) hx hb dM_step_41 (by decide) (by omega) (by omega) (fun c_8 => ?_) (fun c_8 => ?_)
        · exfalso; omega
        · refine lv_aload_n hx hb dM_step_44 rfl (lv_at hl 4 rfl) ?_
          refine lv_iload hx hb dM_step_45 (lv_at hl 0 rfl) ?_
          refine rd_call (va_runV (As := [.int (nI v)]) (rest := []) ⟨hx, hb, hml, hown, hta⟩ (c_M_isInside l dC dI mo km (mNx M tx) v (by first | omega | assumption) (by first | omega | assumption) (by first | omega | assumption)) (cwV 1 hta (gV m_586 m_588 mp_41 m_4 m_589) rfl rfl rfl (by decide +kernel) ⟨Nat.le_of_ble_eq_true rfl, Nat.le_of_ble_eq_true rfl⟩) (rd_V xT_ok trivial hK hP (ci := 2) (q0 := 0) rfl rfl) rfl rfl hl.1 rfl (lv_room (Nat.le_of_ble_eq_true rfl)) dM_step_47 ⟨Nat.zero_le _, Nat.zero_le _⟩) ?_
          refine W.eq (g2 := F0 m 50 ls [.int (bI (inB (mNx M tx) v))]) rfl ?_
          refine lb_eq (tgt := 180) hx hb dM_step_50 (by decide) (fun hi => ?_) (fun hi => ?_)
          · refine lv_iinc (v := nI (v + 1)) (lv' := [(7, .int (nI (v + 1))), (6, .int (bI b)), (5, .int (nI (M.ou q))), (3, .long (M.ta (13 * le + q))), (0, .ref (mo 0)), (1, .int (nI le)), (2, .int (nI q))]) hx hb dM_step_180 hl (k := 0) rfl (nI_add v 1) (by decide) rfl (fun ls hl => ?_)
            refine lv_goto (tgt := 37) hx hb dM_step_183 (by decide) ?_
            exact ih (v + 1) tx b H locs ls (by omega) (by rw [← hq, spO]; first | (rw [if_neg (fun z => by rw [show inB M v = false from hi] at z; exact nomatch z.1)]; done) | (rw [if_neg (fun z => z.2 h1)]; done)) hP hD hS (lv_sub hl [0, 1, 2, 3, 4, 5, 6] rfl)
          · refine lv_iload hx hb dM_step_53 (lv_at hl 0 rfl) ?_
            refine lv_iload_n hx hb dM_step_55 rfl (lv_at hl 5 rfl) ?_
            refine ni_eq (tgt := 180) hx hb dM_step_56 (by decide) (by omega) (by omega) (fun h1 => ?_) (fun h1 => ?_)
            · refine lv_iinc (v := nI (v + 1)) (lv' := [(7, .int (nI (v + 1))), (6, .int (bI b)), (5, .int (nI (M.ou q))), (3, .long (M.ta (13 * le + q))), (0, .ref (mo 0)), (1, .int (nI le)), (2, .int (nI q))]) hx hb dM_step_180 hl (k := 0) rfl (nI_add v 1) (by decide) rfl (fun ls hl => ?_)
              refine lv_goto (tgt := 37) hx hb dM_step_183 (by decide) ?_
              exact ih (v + 1) tx b H locs ls (by omega) (by rw [← hq, spO]; first | (rw [if_neg (fun z => by rw [show inB M v = false from hi] at z; exact nomatch z.1)]; done) | (rw [if_neg (fun z => z.2 h1)]; done)) hP hD hS (lv_sub hl [0, 1, 2, 3, 4, 5, 6] rfl)
            · refine lv_aload_n hx hb dM_step_59 rfl (lv_at hl 4 rfl) ?_
              refine va_get (D := (dC, dI)) (ci := 2) (v := .ref (mo 9)) (C := RM) (T := FM) (N := 19) hx hb hta iM hown hK hP 0 rfl rfl 16 (by decide) (hta _ m_508) (fun _ h9 => h9) rfl dM_step_60 ?_
              refine lv_bipush (v := nI 13) hx hb dM_step_63 (by decide) ?_
              refine lv_iload hx hb dM_step_65 (lv_at hl 0 rfl) ?_
              refine lv_imul hx hb dM_step_67 ?_
              refine st_i (y := nI (13 * v)) (pk_mul _ _) ?_
              refine lv_iload_n hx hb dM_step_68 rfl (lv_at hl 6 rfl) ?_
              refine lv_iadd hx hb dM_step_69 ?_
              refine st_i (y := nI ((13 * v) + q)) (nI_add _ _) ?_
              refine na_lald hx hb hK hP 9 8 rfl rfl (i := ((13 * v) + q)) (by omega) (by decide) dM_step_70 ?_
              refine lv_lstore (lv' := [(8, .long (M.ta ((13 * v) + q))), (7, .int (nI v)), (6, .int (bI b)), (5, .int (nI (M.ou q))), (3, .long (M.ta (13 * le + q))), (0, .ref (mo 0)), (1, .int (nI le)), (2, .int (nI q))]) hx hb dM_step_71 hl (by decide) rfl (fun ls hl => ?_)
              refine lv_iconst (v := nI 0) hx hb dM_step_73 (by decide) ?_
              refine lv_istore (lv' := [(10, .int (nI 0)), (8, .long (M.ta ((13 * v) + q))), (7, .int (nI v)), (6, .int (bI b)), (5, .int (nI (M.ou q))), (3, .long (M.ta (13 * le + q))), (0, .ref (mo 0)), (1, .int (nI le)), (2, .int (nI q))]) hx hb dM_step_74 hl (by decide) rfl (fun ls hl => ?_)
              have loop76 : ∀ (n2 : Nat) (k2 : Nat) (t2 : Nat → Int64) (b2 : Bool) (H : Heap) (locs : List Loc) (ls : Array Slot), (k2 + n2 = 13) → (spI M le q v k2 n2 t2 b2 = spI M le q v 0 13 tx b) → va_P (dC, dI) vwCl (MW mo km (mNx M t2)) H → va_D A (MW mo km (mNx M t2)) → va_S A s.heap H locs → lv_has ls 11 [(10, .int (nI k2)), (8, .long (M.ta (13 * v + q))), (7, .int (nI v)), (6, .int (bI b2)), (5, .int (nI (M.ou q))), (3, .long (M.ta (13 * le + q))), (0, .ref (mo 0)), (1, .int (nI le)), (2, .int (nI q))] → W p l e (headSpec wM_step ({ frames := 1, cells := 0, slots := 0, locals := 21 })).room s m ([.ref (mo 0), .int (nI le), .int (nI q)] : List Value).toArray below meth c H locs 0 0 (MQ below (wQ (some (.int (bI (spM M le q).1))) (dC, dI) vwCl (MW mo km ((spM M le q).2)) A) ([.ref (mo 0), .int (nI le), .int (nI q)] : List Value).toArray s 0 0 A) (F0 m 76 ls []) := by
                intro n2
                induction n2 with
                | zero =>
                  intro k2 t2 b2 H locs ls hn2 hq2 hP hD hS hl
                  refine lv_iload hx hb dM_step_76 (lv_at hl 0 rfl) ?_
                  refine lv_bipush (v := nI 12) hx hb dM_step_78 (by decide) ?_
                  refine ni_gt (tgt := 180) hx hb dM_step_80 (by decide) (by omega) (by omega) (fun c_9 => ?_) (fun c_9 => ?_)
                  · refine lv_iinc (v := nI (v + 1)) (lv' := [(7, .int (nI (v + 1))), (10, .int (nI k2)), (8, .long (M.ta (13 * v + q))), (6, .int (bI b2)), (5, .int (nI (M.ou q))), (3, .long (M.ta (13 * le + q))), (0, .ref (mo 0)), (1, .int (nI le)), (2, .int (nI q))]) hx hb dM_step_180 hl (k := 2) rfl (nI_add v 1) (by decide) rfl (fun ls hl => ?_)
                    refine lv_goto (tgt := 37) hx hb dM_step_183 (by decide) ?_
                    exact ih (v + 1) t2 b2 H locs ls (by omega) (by rw [← hq, spO, if_pos ⟨hi, h1⟩, ← hq2]; rfl) hP hD hS (lv_sub hl [0, 3, 4, 5, 6, 7, 8] rfl)
                  · exfalso; omega
                | succ n2 ih76 =>
                  intro k2 t2 b2 H locs ls hn2 hq2 hP hD hS hl
                  refine lv_iload hx hb dM_step_76 (lv_at hl 0 rfl) ?_
                  refine lv_bipush (v := nI 12) hx hb dM_step_78 (by decide) ?_
                  refine ni_gt (tgt := 180) hx hb dM_step_80 (by decide) (by omega) (by omega) (fun c_10 => ?_) (fun c_10 => ?_)
                  · exfalso; omega
                  · refine lv_aload_n hx hb dM_step_83 rfl (lv_at hl 6 rfl) ?_
                    refine va_get (D := (dC, dI)) (ci := 2) (v := .ref (mo 10)) (C := RM) (T := FM) (N := 19) hx hb hta iM hown hK hP 0 rfl rfl 17 (by decide) (hta _ m_509) (fun _ h9 => h9) rfl dM_step_84 ?_
                    refine lv_bipush (v := nI 13) hx hb dM_step_87 (by decide) ?_
                    refine lv_iload hx hb dM_step_89 (lv_at hl 2 rfl) ?_
                    refine lv_imul hx hb dM_step_91 ?_
                    refine st_i (y := nI (13 * v)) (pk_mul _ _) ?_
                    refine lv_iload hx hb dM_step_92 (lv_at hl 0 rfl) ?_
                    refine lv_iadd hx hb dM_step_94 ?_
                    refine st_i (y := nI ((13 * v) + k2)) (nI_add _ _) ?_
                    have join142 : ∀ (ls : Array Slot), lv_has ls 11 [(10, .int (nI k2)), (8, .long (M.ta (13 * v + q))), (7, .int (nI v)), (6, .int (bI b2)), (5, .int (nI (M.ou q))), (3, .long (M.ta (13 * le + q))), (0, .ref (mo 0)), (1, .int (nI le)), (2, .int (nI q))] → W p l e (headSpec wM_step ({ frames := 1, cells := 0, slots := 0, locals := 21 })).room s m ([.ref (mo 0), .int (nI le), .int (nI q)] : List Value).toArray below meth c H locs 0 0 (MQ below (wQ (some (.int (bI (spM M le q).1))) (dC, dI) vwCl (MW mo km ((spM M le q).2)) A) ([.ref (mo 0), .int (nI le), .int (nI q)] : List Value).toArray s 0 0 A) (F0 m 142 ls [.long (spX M le q v k2), .int (nI (13 * v + k2)), .ref (mo 10)]) := by
                      intro ls hl
                      refine na_last hx hb hK hP hD hS 10 9 rfl rfl (i := (13 * v + k2)) (x := spX M le q v k2) (by omega) (by decide) dM_step_142 (fun H locs hP hD hS => ?_)
                      have hP : va_P (dC, dI) vwCl (MW mo km (mNx M (vp_updL t2 (13 * v + k2) (spX M le q v k2)))) H := hP
                      have hD : va_D A (MW mo km (mNx M (vp_updL t2 (13 * v + k2) (spX M le q v k2)))) := hD
                      have join172 : ∀ (ls : Array Slot), lv_has ls 11 [(10, .int (nI k2)), (8, .long (M.ta (13 * v + q))), (7, .int (nI v)), (6, .int (bI b2)), (5, .int (nI (M.ou q))), (3, .long (M.ta (13 * le + q))), (0, .ref (mo 0)), (1, .int (nI le)), (2, .int (nI q))] → W p l e (headSpec wM_step ({ frames := 1, cells := 0, slots := 0, locals := 21 })).room s m ([.ref (mo 0), .int (nI le), .int (nI q)] : List Value).toArray below meth c H locs 0 0 (MQ below (wQ (some (.int (bI (spM M le q).1))) (dC, dI) vwCl (MW mo km ((spM M le q).2)) A) ([.ref (mo 0), .int (nI le), .int (nI q)] : List Value).toArray s 0 0 A) (F0 m 172 ls [.int (bI (b2 && !isGrB (spX M le q v k2)))]) := by
                        intro ls hl
                        refine lv_istore (lv' := [(6, .int (bI (b2 && !isGrB (spX M le q v k2)))), (10, .int (nI k2)), (8, .long (M.ta (13 * v + q))), (7, .int (nI v)), (5, .int (nI (M.ou q))), (3, .long (M.ta (13 * le + q))), (0, .ref (mo 0)), (1, .int (nI le)), (2, .int (nI q))]) hx hb dM_step_172 hl (by decide) rfl (fun ls hl => ?_)
                        refine lv_iinc (v := nI (k2 + 1)) (lv' := [(10, .int (nI (k2 + 1))), (6, .int (bI (b2 && !isGrB (spX M le q v k2)))), (8, .long (M.ta (13 * v + q))), (7, .int (nI v)), (5, .int (nI (M.ou q))), (3, .long (M.ta (13 * le + q))), (0, .ref (mo 0)), (1, .int (nI le)), (2, .int (nI q))]) hx hb dM_step_174 hl (k := 1) rfl (nI_add k2 1) (by decide) rfl (fun ls hl => ?_)
                        refine lv_goto (tgt := 76) hx hb dM_step_177 (by decide) ?_
                        exact ih76 (k2 + 1) (vp_updL t2 (13 * v + k2) (spX M le q v k2)) ((b2 && !isGrB (spX M le q v k2))) H locs ls (by omega) (by rw [← hq2, spI]) hP hD hS (lv_sub hl [0, 2, 3, 1, 4, 5, 6, 7, 8] rfl)
                      refine lv_iload hx hb dM_step_143 (lv_at hl 3 rfl) ?_
                      refine lb_eq (tgt := 171) hx hb dM_step_145 (by decide) (fun h4 => ?_) (fun h4 => ?_)
                      · refine lv_iconst (v := 0) hx hb dM_step_171 (by decide) ?_
                        refine st_i (y := bI (b2 && !isGrB (spX M le q v k2))) (by first | (rw [h4]; rfl; done) | (rw [h4, h5]; rfl; done)) ?_
                        exact join172 ls (lv_sub hl [0, 1, 2, 3, 4, 5, 6, 7, 8] rfl)
                      · refine lv_aload_n hx hb dM_step_148 rfl (lv_at hl 6 rfl) ?_
                        refine va_get (D := (dC, dI)) (ci := 2) (v := .ref (mo 10)) (C := RM) (T := FM) (N := 19) hx hb hta iM hown hK hP 0 rfl rfl 17 (by decide) (hta _ m_509) (fun _ h9 => h9) rfl dM_step_149 ?_
                        refine lv_bipush (v := nI 13) hx hb dM_step_152 (by decide) ?_
                        refine lv_iload hx hb dM_step_154 (lv_at hl 2 rfl) ?_
                        refine lv_imul hx hb dM_step_156 ?_
                        refine st_i (y := nI (13 * v)) (pk_mul _ _) ?_
                        refine lv_iload hx hb dM_step_157 (lv_at hl 0 rfl) ?_
                        refine lv_iadd hx hb dM_step_159 ?_
                        refine st_i (y := nI ((13 * v) + k2)) (nI_add _ _) ?_
                        refine na_lald hx hb hK hP 10 9 rfl rfl (i := ((13 * v) + k2)) (by omega) (by decide) dM_step_160 ?_
                        refine st_l (y := spX M le q v k2) (by show vp_updL t2 (13 * v + k2) (spX M le q v k2) (13 * v + k2) = _; simp [vp_updL]) ?_
                        refine rd_call (va_runS (As := [.long (spX M le q v k2)]) (rest := []) ⟨hx, hb, hml, hown, hta⟩ (c_M_isGreat l dC dI mo km (spX M le q v k2)) (cwS 1 hta (gS m_594 m_595 m_4 m_596) rfl rfl rfl (by decide +kernel) ⟨Nat.le_of_ble_eq_true rfl, Nat.le_of_ble_eq_true rfl⟩) (rd_S xT_ok trivial (hK.sub [] rfl) va_P_nil) rfl rfl hl.1 rfl (lv_room (Nat.le_of_ble_eq_true rfl)) dM_step_161 ⟨Nat.zero_le _, Nat.zero_le _⟩) ?_
                        refine W.eq (g2 := F0 m 164 ls [.int (bI (isGrB (spX M le q v k2)))]) rfl ?_
                        refine lb_ne (tgt := 171) hx hb dM_step_164 (by decide) (fun h5 => ?_) (fun h5 => ?_)
                        · refine lv_iconst (v := 0) hx hb dM_step_171 (by decide) ?_
                          refine st_i (y := bI (b2 && !isGrB (spX M le q v k2))) (by first | (rw [h4]; rfl; done) | (rw [h4, h5]; rfl; done)) ?_
                          exact join172 ls (lv_sub hl [0, 1, 2, 3, 4, 5, 6, 7, 8] rfl)
                        · refine lv_iconst (v := 1) hx hb dM_step_167 (by decide) ?_
                          refine lv_goto (tgt := 172) hx hb dM_step_168 (by decide) ?_
                          refine st_i (y := bI (b2 && !isGrB (spX M le q v k2))) (by first | (rw [h4]; rfl; done) | (rw [h4, h5]; rfl; done)) ?_
                          exact join172 ls (lv_sub hl [0, 1, 2, 3, 4, 5, 6, 7, 8] rfl)
                    refine lv_iload hx hb dM_step_95 (lv_at hl 0 rfl) ?_
                    refine lv_iload_n hx hb dM_step_97 rfl (lv_at hl 8 rfl) ?_
                    refine ni_ne (tgt := 106) hx hb dM_step_98 (by decide) (by omega) (by omega) (fun h3 => ?_) (fun h3 => ?_)
                    · refine lv_aload_n hx hb dM_step_106 rfl (lv_at hl 6 rfl) ?_
                      refine va_get (D := (dC, dI)) (ci := 2) (v := .ref (mo 9)) (C := RM) (T := FM) (N := 19) hx hb hta iM hown hK hP 0 rfl rfl 16 (by decide) (hta _ m_508) (fun _ h9 => h9) rfl dM_step_107 ?_
                      refine lv_bipush (v := nI 13) hx hb dM_step_110 (by decide) ?_
                      refine lv_iload hx hb dM_step_112 (lv_at hl 2 rfl) ?_
                      refine lv_imul hx hb dM_step_114 ?_
                      refine st_i (y := nI (13 * v)) (pk_mul _ _) ?_
                      refine lv_iload hx hb dM_step_115 (lv_at hl 0 rfl) ?_
                      refine lv_iadd hx hb dM_step_117 ?_
                      refine st_i (y := nI ((13 * v) + k2)) (nI_add _ _) ?_
                      refine na_lald hx hb hK hP 9 8 rfl rfl (i := ((13 * v) + k2)) (by omega) (by decide) dM_step_118 ?_
                      refine lv_lload_n hx hb dM_step_119 rfl (lv_at hl 5 rfl) ?_
                      refine lv_lmul hx hb dM_step_120 ?_
                      refine lv_lload hx hb dM_step_121 (lv_at hl 1 rfl) ?_
                      refine lv_aload_n hx hb dM_step_123 rfl (lv_at hl 6 rfl) ?_
                      refine va_get (D := (dC, dI)) (ci := 2) (v := .ref (mo 9)) (C := RM) (T := FM) (N := 19) hx hb hta iM hown hK hP 0 rfl rfl 16 (by decide) (hta _ m_508) (fun _ h9 => h9) rfl dM_step_124 ?_
                      refine lv_bipush (v := nI 13) hx hb dM_step_127 (by decide) ?_
                      refine lv_iload_n hx hb dM_step_129 rfl (lv_at hl 7 rfl) ?_
                      refine lv_imul hx hb dM_step_130 ?_
                      refine st_i (y := nI (13 * le)) (pk_mul _ _) ?_
                      refine lv_iload hx hb dM_step_131 (lv_at hl 0 rfl) ?_
                      refine lv_iadd hx hb dM_step_133 ?_
                      refine st_i (y := nI ((13 * le) + k2)) (nI_add _ _) ?_
                      refine na_lald hx hb hK hP 9 8 rfl rfl (i := ((13 * le) + k2)) (by omega) (by decide) dM_step_134 ?_
                      refine lv_lmul hx hb dM_step_135 ?_
                      refine lv_lsub hx hb dM_step_136 ?_
                      refine lv_aload_n hx hb dM_step_137 rfl (lv_at hl 6 rfl) ?_
                      refine va_get (D := (dC, dI)) (ci := 2) (v := .long M.dn) (C := RM) (T := FM) (N := 19) hx hb hta iM hown hK hP 0 rfl rfl 13 (by decide) (hta _ m_505) (fun _ h9 => h9) rfl dM_step_138 ?_
                      refine lv_ldiv hx hb dM_step_141 (hdn) ?_
                      refine st_l (y := spX M le q v k2) (by first | (rw [spX, if_pos h3]; done) | (rw [spX, if_neg h3]; rfl)) ?_
                      exact join142 ls (lv_sub hl [0, 1, 2, 3, 4, 5, 6, 7, 8] rfl)
                    · refine lv_lload hx hb dM_step_101 (lv_at hl 1 rfl) ?_
                      refine lv_goto (tgt := 142) hx hb dM_step_103 (by decide) ?_
                      refine st_l (y := spX M le q v k2) (by first | (rw [spX, if_pos h3]; done) | (rw [spX, if_neg h3]; rfl)) ?_
                      exact join142 ls (lv_sub hl [0, 1, 2, 3, 4, 5, 6, 7, 8] rfl)
              exact loop76 13 0 tx b H locs ls (by omega) rfl hP hD hS (lv_sub hl [0, 1, 2, 3, 4, 5, 6, 7, 8] rfl)
    exact loop37 37 0 M.nx (!isGrB (M.ta (13 * le + q))) s.heap [] ls (by omega) rfl hP hD hS (lv_sub hl [0, 1, 2, 3, 4, 5, 6] rfl)
  refine lv_lload_n hx hb dM_step_20 rfl (lv_at hl 1 rfl) ?_
  refine rd_call (va_runS (As := [.long (M.ta ((13 * le) + q))]) (rest := []) ⟨hx, hb, hml, hown, hta⟩ (c_M_isGreat l dC dI mo km (M.ta ((13 * le) + q))) (cwS 1 hta (gS m_594 m_595 m_4 m_596) rfl rfl rfl (by decide +kernel) ⟨Nat.le_of_ble_eq_true rfl, Nat.le_of_ble_eq_true rfl⟩) (rd_S xT_ok trivial (hK.sub [] rfl) va_P_nil) rfl rfl hl.1 rfl (lv_room (Nat.le_of_ble_eq_true rfl)) dM_step_21 ⟨Nat.zero_le _, Nat.zero_le _⟩) ?_
  refine W.eq (g2 := F0 m 24 ls [.int (bI (isGrB (M.ta ((13 * le) + q))))]) rfl ?_
  refine lb_ne (tgt := 31) hx hb dM_step_24 (by decide) (fun h0 => ?_) (fun h0 => ?_)
  · refine lv_iconst (v := 0) hx hb dM_step_31 (by decide) ?_
    refine st_i (y := bI (!isGrB (M.ta (13 * le + q)))) (by rw [h0]; rfl) ?_
    exact join32 ls (lv_sub hl [0, 1, 2, 3, 4] rfl)
  · refine lv_iconst (v := 1) hx hb dM_step_27 (by decide) ?_
    refine lv_goto (tgt := 32) hx hb dM_step_28 (by decide) ?_
    refine st_i (y := bI (!isGrB (M.ta (13 * le + q)))) (by rw [h0]; rfl) ?_
    exact join32 ls (lv_sub hl [0, 1, 2, 3, 4] rfl)
end
section
/-! places told by ints: the place, if there is one of n -/
def idx (n : Nat) (x : Int32) : Option Nat := if 0 ≤ x.toInt ∧ x.toInt < n then some x.toInt.toNat else none
theorem idx_some {n r : Nat} {x : Int32} (h : idx n x = some r) : r < n ∧ x = nI r := by
  unfold idx at h
  split at h
  · rename_i h1
    have h2 : x.toInt.toNat = r := Option.some.inj h
    have h3 : (r : Int) = x.toInt := by omega
    refine ⟨by omega, ?_⟩
    have h4 : r < 2 ^ 31 := by
      have := x.toInt_lt
      omega
    exact Int32.toInt_inj.mp (by rw [nI_toInt h4]; omega)
  · cases h
theorem i64_i32 (x : Int32) : x.toInt64.toInt = x.toInt := by simp
theorem idx_in {n : Nat} (hn : n ≤ 12) (x : Int32) : isInB x.toInt64 0 ((nI n - 1).toInt64) = (idx n x).isSome := by
  have h1 : (nI n - 1).toInt = (n : Int) - 1 := by
    have h := pk_sub_toInt (a := n) (b := 1) (by omega) (by omega)
    exact h
  unfold isInB idx
  have e1 : (x.toInt64 < 0) ↔ x.toInt < 0 := by rw [Int64.lt_iff_toInt_lt, i64_i32]; simp
  have e2 : ((nI n - 1).toInt64 < x.toInt64) ↔ (n : Int) - 1 < x.toInt := by rw [Int64.lt_iff_toInt_lt, i64_i32, i64_i32, h1]
  by_cases a : x.toInt < 0
  · rw [decide_eq_true (e1.mpr a), if_neg (by omega)]; rfl
  · rw [decide_eq_false (fun z => a (e1.mp z))]
    by_cases b : (n : Int) - 1 < x.toInt
    · rw [decide_eq_true (e2.mpr b), if_neg (by omega)]; rfl
    · rw [decide_eq_false (fun z => b (e2.mp z)), if_pos (by omega)]; rfl
theorem idx_no {n : Nat} {x : Int32} (hn : n ≤ 12) (h : idx n x = none) : isInB x.toInt64 0 ((nI n - 1).toInt64) = false := by rw [idx_in hn, h]; rfl
theorem idx_yes {n r : Nat} {x : Int32} (hn : n ≤ 12) (h : idx n x = some r) : isInB x.toInt64 0 ((nI n - 1).toInt64) = true := by rw [idx_in hn, h]; rfl
def coC (M : MS) (v : Int64) : Nat := if M.co = 12 then 1 else if M.hr = true then 1 else if isInB v 0 1000 = true then 0 else 2
def clM (M : MS) (v : Int64) : Int32 × MS := if coC M v = 0 then (nI M.co, ms 0 M.wk (M.co + 1) (vp_updL M.cs M.co v) M.ro M.ki M.wo M.ri M.fa M.li M.ln M.hr M.st M.dn (va_up M.pl M.co (some M.co)) (va_up M.ou M.co M.co) (vp_updL M.ta (468 + M.co) v) M.nx M.ag) else (nI 0, mTh M (coC M v))
def roC (M : MS) (kd wk : Int32) (b : Int64) : Nat := if M.ro = 12 then 1 else if isInB kd.toInt64 0 2 = true then (if isInB wk.toInt64 0 ((M.wk - 1).toInt64) = true then (if isInB b (-1000000) 1000000 = true then 0 else 2) else 2) else 2
def rwM (M : MS) (kd wk : Int32) (b : Int64) : Int32 × MS := if roC M kd wk b = 0 then (nI M.ro, adM (mTh M 0) kd wk b) else (nI 0, mTh M (roC M kd wk b))
def vaM (M : MS) (pt : Int32) : Int64 × MS := if paB pt = true then (frR (M.ta 480) M.dn pt, mTh M 0) else (0, mTh M 1)
def ckS (M : MS) (r : Nat) : Nat → Nat → Int64 → Int64
  | _, 0, acc => acc
  | c, n + 1, acc => ckS M r (c + 1) n (acc + M.fa (12 * r + c) * amR M c)
def ckO (M : MS) (r : Nat) : Int64 := ckS M r 0 M.co (-M.dn * M.ri r)
def ckB (M : MS) (r : Nat) : Bool := if M.ki r = 0 then !(decide (ckO M r < 0)) else if M.ki r = 1 then !(decide (0 < ckO M r)) else decide (ckO M r = 0)
def ckR (M : MS) : Nat → Nat → Nat
  | _, 0 => 0
  | r, n + 1 => if ckB M r then ckR M (r + 1) n else r + 1
end
section
set_option maxHeartbeats 4000000 in
set_option maxRecDepth 100000 in
theorem c_M_column (l : Launch) (dC : Nat → ClassId) (dI : Nat → Nat → Nat) (mo : Nat → Nat) (km : Nat → ClassId) (M : MS) (sz : Nat) (v : Int64) (hco : M.co ≤ 12) : Met l yM_column wM_column ({ frames := 1, cells := 0, slots := 0, locals := 25 }) (wPc [.ref (mo 0), .long v] sz (dC, dI) vwCl (MW mo km M) (MK km) xT) (wQ (some (.int ((clM M v).1))) (dC, dI) vwCl (MW mo km ((clM M v).2)) (va_A (MW mo km M) sz)) 0 0 (va_A (MW mo km M) sz) := by
  refine Met.ofW (cc := bM_column) (maxL := 3) (ret := (some .int)) (by decide) rfl ?_
  intro p e s m args below meth c s₁ B hml hv
  obtain ⟨rfl, hsz, hP, hK, hD0, hX⟩ := hv
  have hx := B.exec
  have hb := B.bytes
  have hr := B.returns
  have hts := atoms_spec (ws := wM_column) B.pre
  have hta : ∀ w ∈ AW, w.before _ s = true := fun w h => hts w (List.mem_cons_of_mem _ h)
  have hown : s.vm.findClass RM = some m.cls := findClass_of_methodNamed B.named
  have hlocks := B.notSynchronized
  subst hsz
  have hD := hD0.self (sz := s.heap.size)
  generalize hAe : va_A (MW mo km M) s.heap.size = A at hD ⊢
  have hA : ∀ q : Nat, s.heap.size ≤ q → A q := fun q h => by rw [← hAe]; exact Or.inr h
  have hS : va_S A s.heap s.heap [] := va_S.rf
  have hl := lv_entry ([.ref (mo 0), .long v]) (n := 3) (Nat.le_of_ble_eq_true rfl)
  rw [lg_entry_eq]
  generalize (lg_sl ([.ref (mo 0), .long v]) ++ List.replicate (3 - (lg_sl ([.ref (mo 0), .long v])).length) Slot.unset).toArray = ls at hl ⊢
  have hl : lv_has ls 3 [(0, .ref (mo 0)), (1, .long v)] := hl
  refine lv_aload_n hx hb dM_column_0 rfl (lv_at hl 0 rfl) ?_
  refine lv_aload_n hx hb dM_column_1 rfl (lv_at hl 0 rfl) ?_
  refine va_get (D := (dC, dI)) (ci := 2) (v := .int (nI M.co)) (C := RM) (T := FM) (N := 19) hx hb hta iM hown hK hP 0 rfl rfl 2 (by decide) (hta _ m_494) (fun _ h9 => h9) rfl dM_column_2 ?_
  refine lv_bipush (v := nI 12) hx hb dM_column_5 (by decide) ?_
  refine ni_eq (tgt := 17) hx hb dM_column_7 (by decide) (by omega) (by omega) (fun h1 => ?_) (fun h1 => ?_)
  · refine lv_iconst (v := nI 1) hx hb dM_column_17 (by decide) ?_
    refine lv_goto (tgt := 37) hx hb dM_column_18 (by decide) ?_
    have eC : coC M v = 1 := by first | (simp [coC, h1]; done) | (simp [coC, h1, h2]; done) | (simp [coC, h1, h2, h3]; done)
    refine va_put (D := (dC, dI)) (ci := 2) (v := .int (nI 1)) (ty := .int) (C := RM) (T := FM) (N := 19) hx hb hta iM tM tM_ok nM hown hK hP hD hS 0 rfl rfl 0 (by decide) (hta _ m_492) (fun _ h9 => h9) rfl (by decide +kernel) rfl rfl (Nat.le_of_ble_eq_true rfl) dM_column_37 (fun H locs hP hD hS => ?_)
    have hP : va_P (dC, dI) vwCl (MW mo km (mTh M 1)) H := hP
    have hD : va_D A (MW mo km (mTh M 1)) := hD
    refine lv_aload_n hx hb dM_column_40 rfl (lv_at hl 0 rfl) ?_
    refine va_get (D := (dC, dI)) (ci := 2) (v := .int (nI 1)) (C := RM) (T := FM) (N := 19) hx hb hta iM hown hK hP 0 rfl rfl 0 (by decide) (hta _ m_492) (fun _ h9 => h9) rfl dM_column_41 ?_
    refine lz_le (tgt := 49) hx hb dM_column_44 (by decide) (fun c_1 => ?_) (fun c_1 => ?_)
    · exact absurd c_1 (by decide)
    · refine lv_iconst (v := nI 0) hx hb dM_column_47 (by decide) ?_
      exact W.iret (v := nI 0) hx hb hr (fun t ht hW => ⟨congrArg (fun z => Outcome.returned (some (.int z))) (by rw [clM, if_neg (by rw [eC]; decide)]), by rw [ht]; exact (by rw [clM, if_neg (by rw [eC]; decide), eC]; exact hP), hS.F ht⟩) hS.2.2 dM_column_48
  · refine lv_aload_n hx hb dM_column_10 rfl (lv_at hl 0 rfl) ?_
    refine va_get (D := (dC, dI)) (ci := 2) (v := .int (bI M.hr)) (C := RM) (T := FM) (N := 19) hx hb hta iM hown hK hP 0 rfl rfl 11 (by decide) (hta _ m_503) (fun _ h9 => h9) rfl dM_column_11 ?_
    refine lb_eq (tgt := 21) hx hb dM_column_14 (by decide) (fun h2 => ?_) (fun h2 => ?_)
    · refine lv_lload_n hx hb dM_column_21 rfl (lv_at hl 1 rfl) ?_
      refine lv_lconst (v := 0) hx hb dM_column_22 (by decide) ?_
      refine lv_ldc2 (v := 1000) hx hb hown (hta _ m_558) dM_column_23 ?_
      refine rd_call (va_runS (As := [.long v, .long 0, .long 1000]) (rest := [.ref (mo 0)]) ⟨hx, hb, hml, hown, hta⟩ (c_M_isIn l dC dI mo km v 0 1000) (cwS 3 hta (gS m_559 m_560 m_4 m_561) rfl rfl rfl (by decide +kernel) ⟨Nat.le_of_ble_eq_true rfl, Nat.le_of_ble_eq_true rfl⟩) (rd_S xT_ok trivial (hK.sub [] rfl) va_P_nil) rfl rfl hl.1 rfl (lv_room (Nat.le_of_ble_eq_true rfl)) dM_column_26 ⟨Nat.zero_le _, Nat.zero_le _⟩) ?_
      refine W.eq (g2 := F0 m 29 ls [.int (bI (isInB v 0 1000)), .ref (mo 0)]) rfl ?_
      refine lb_ne (tgt := 36) hx hb dM_column_29 (by decide) (fun h3 => ?_) (fun h3 => ?_)
      · refine lv_iconst (v := nI 0) hx hb dM_column_36 (by decide) ?_
        have eC : coC M v = 0 := by first | (simp [coC, h1]; done) | (simp [coC, h1, h2]; done) | (simp [coC, h1, h2, h3]; done)
        refine va_put (D := (dC, dI)) (ci := 2) (v := .int (nI 0)) (ty := .int) (C := RM) (T := FM) (N := 19) hx hb hta iM tM tM_ok nM hown hK hP hD hS 0 rfl rfl 0 (by decide) (hta _ m_492) (fun _ h9 => h9) rfl (by decide +kernel) rfl rfl (Nat.le_of_ble_eq_true rfl) dM_column_37 (fun H locs hP hD hS => ?_)
        have hP : va_P (dC, dI) vwCl (MW mo km (mTh M 0)) H := hP
        have hD : va_D A (MW mo km (mTh M 0)) := hD
        refine lv_aload_n hx hb dM_column_40 rfl (lv_at hl 0 rfl) ?_
        refine va_get (D := (dC, dI)) (ci := 2) (v := .int (nI 0)) (C := RM) (T := FM) (N := 19) hx hb hta iM hown hK hP 0 rfl rfl 0 (by decide) (hta _ m_492) (fun _ h9 => h9) rfl dM_column_41 ?_
        refine lz_le (tgt := 49) hx hb dM_column_44 (by decide) (fun c_2 => ?_) (fun c_2 => ?_)
        · refine lv_aload_n hx hb dM_column_49 rfl (lv_at hl 0 rfl) ?_
          refine va_get (D := (dC, dI)) (ci := 2) (v := .ref (mo 1)) (C := RM) (T := FM) (N := 19) hx hb hta iM hown hK hP 0 rfl rfl 3 (by decide) (hta _ m_495) (fun _ h9 => h9) rfl dM_column_50 ?_
          refine lv_aload_n hx hb dM_column_53 rfl (lv_at hl 0 rfl) ?_
          refine va_get (D := (dC, dI)) (ci := 2) (v := .int (nI M.co)) (C := RM) (T := FM) (N := 19) hx hb hta iM hown hK hP 0 rfl rfl 2 (by decide) (hta _ m_494) (fun _ h9 => h9) rfl dM_column_54 ?_
          refine lv_lload_n hx hb dM_column_57 rfl (lv_at hl 1 rfl) ?_
          refine na_last hx hb hK hP hD hS 1 0 rfl rfl (i := M.co) (x := v) (by omega) (by decide) dM_column_58 (fun H locs hP hD hS => ?_)
          have hP : va_P (dC, dI) vwCl (MW mo km (ms 0 M.wk M.co (vp_updL M.cs M.co v) M.ro M.ki M.wo M.ri M.fa M.li M.ln M.hr M.st M.dn M.pl M.ou M.ta M.nx M.ag)) H := hP
          have hD : va_D A (MW mo km (ms 0 M.wk M.co (vp_updL M.cs M.co v) M.ro M.ki M.wo M.ri M.fa M.li M.ln M.hr M.st M.dn M.pl M.ou M.ta M.nx M.ag)) := hD
          refine lv_aload_n hx hb dM_column_59 rfl (lv_at hl 0 rfl) ?_
          refine va_get (D := (dC, dI)) (ci := 2) (v := .ref (mo 7)) (C := RM) (T := FM) (N := 19) hx hb hta iM hown hK hP 0 rfl rfl 14 (by decide) (hta _ m_506) (fun _ h9 => h9) rfl dM_column_60 ?_
          refine lv_aload_n hx hb dM_column_63 rfl (lv_at hl 0 rfl) ?_
          refine va_get (D := (dC, dI)) (ci := 2) (v := .int (nI M.co)) (C := RM) (T := FM) (N := 19) hx hb hta iM hown hK hP 0 rfl rfl 2 (by decide) (hta _ m_494) (fun _ h9 => h9) rfl dM_column_64 ?_
          refine lv_aload_n hx hb dM_column_67 rfl (lv_at hl 0 rfl) ?_
          refine va_get (D := (dC, dI)) (ci := 2) (v := .int (nI M.co)) (C := RM) (T := FM) (N := 19) hx hb hta iM hown hK hP 0 rfl rfl 2 (by decide) (hta _ m_494) (fun _ h9 => h9) rfl dM_column_68 ?_
          refine na_iast hx hb hK hP hD hS 7 6 rfl rfl (i := M.co) (x := enc (some M.co)) (by omega) (by decide) dM_column_71 (fun H locs hP hD hS => ?_)
          rw [encF_up] at hP hD
          have hP : va_P (dC, dI) vwCl (MW mo km (ms 0 M.wk M.co (vp_updL M.cs M.co v) M.ro M.ki M.wo M.ri M.fa M.li M.ln M.hr M.st M.dn (va_up M.pl M.co (some M.co)) M.ou M.ta M.nx M.ag)) H := hP
          have hD : va_D A (MW mo km (ms 0 M.wk M.co (vp_updL M.cs M.co v) M.ro M.ki M.wo M.ri M.fa M.li M.ln M.hr M.st M.dn (va_up M.pl M.co (some M.co)) M.ou M.ta M.nx M.ag)) := hD
          refine lv_aload_n hx hb dM_column_72 rfl (lv_at hl 0 rfl) ?_
          refine va_get (D := (dC, dI)) (ci := 2) (v := .ref (mo 8)) (C := RM) (T := FM) (N := 19) hx hb hta iM hown hK hP 0 rfl rfl 15 (by decide) (hta _ m_507) (fun _ h9 => h9) rfl dM_column_73 ?_
          refine lv_aload_n hx hb dM_column_76 rfl (lv_at hl 0 rfl) ?_
          refine va_get (D := (dC, dI)) (ci := 2) (v := .int (nI M.co)) (C := RM) (T := FM) (N := 19) hx hb hta iM hown hK hP 0 rfl rfl 2 (by decide) (hta _ m_494) (fun _ h9 => h9) rfl dM_column_77 ?_
          refine lv_aload_n hx hb dM_column_80 rfl (lv_at hl 0 rfl) ?_
          refine va_get (D := (dC, dI)) (ci := 2) (v := .int (nI M.co)) (C := RM) (T := FM) (N := 19) hx hb hta iM hown hK hP 0 rfl rfl 2 (by decide) (hta _ m_494) (fun _ h9 => h9) rfl dM_column_81 ?_
          refine na_iast hx hb hK hP hD hS 8 7 rfl rfl (i := M.co) (x := nI M.co) (by omega) (by decide) dM_column_84 (fun H locs hP hD hS => ?_)
          rw [nIF_up] at hP hD
          have hP : va_P (dC, dI) vwCl (MW mo km (ms 0 M.wk M.co (vp_updL M.cs M.co v) M.ro M.ki M.wo M.ri M.fa M.li M.ln M.hr M.st M.dn (va_up M.pl M.co (some M.co)) (va_up M.ou M.co M.co) M.ta M.nx M.ag)) H := hP
          have hD : va_D A (MW mo km (ms 0 M.wk M.co (vp_updL M.cs M.co v) M.ro M.ki M.wo M.ri M.fa M.li M.ln M.hr M.st M.dn (va_up M.pl M.co (some M.co)) (va_up M.ou M.co M.co) M.ta M.nx M.ag)) := hD
          refine lv_aload_n hx hb dM_column_85 rfl (lv_at hl 0 rfl) ?_
          refine va_get (D := (dC, dI)) (ci := 2) (v := .ref (mo 9)) (C := RM) (T := FM) (N := 19) hx hb hta iM hown hK hP 0 rfl rfl 16 (by decide) (hta _ m_508) (fun _ h9 => h9) rfl dM_column_86 ?_
          refine lv_sipush (v := nI 468) hx hb dM_column_89 (by decide) ?_
          refine lv_aload_n hx hb dM_column_92 rfl (lv_at hl 0 rfl) ?_
          refine va_get (D := (dC, dI)) (ci := 2) (v := .int (nI M.co)) (C := RM) (T := FM) (N := 19) hx hb hta iM hown hK hP 0 rfl rfl 2 (by decide) (hta _ m_494) (fun _ h9 => h9) rfl dM_column_93 ?_
          refine lv_iadd hx hb dM_column_96 ?_
          refine st_i (y := nI (468 + M.co)) (nI_add _ _) ?_
          refine lv_lload_n hx hb dM_column_97 rfl (lv_at hl 1 rfl) ?_
          refine na_last hx hb hK hP hD hS 9 8 rfl rfl (i := (468 + M.co)) (x := v) (by omega) (by decide) dM_column_98 (fun H locs hP hD hS => ?_)
          have hP : va_P (dC, dI) vwCl (MW mo km (ms 0 M.wk M.co (vp_updL M.cs M.co v) M.ro M.ki M.wo M.ri M.fa M.li M.ln M.hr M.st M.dn (va_up M.pl M.co (some M.co)) (va_up M.ou M.co M.co) (vp_updL M.ta (468 + M.co) v) M.nx M.ag)) H := hP
          have hD : va_D A (MW mo km (ms 0 M.wk M.co (vp_updL M.cs M.co v) M.ro M.ki M.wo M.ri M.fa M.li M.ln M.hr M.st M.dn (va_up M.pl M.co (some M.co)) (va_up M.ou M.co M.co) (vp_updL M.ta (468 + M.co) v) M.nx M.ag)) := hD
          refine lv_aload_n hx hb dM_column_99 rfl (lv_at hl 0 rfl) ?_
          refine lv_dup hx hb dM_column_100 rfl ?_
          refine va_get (D := (dC, dI)) (ci := 2) (v := .int (nI M.co)) (C := RM) (T := FM) (N := 19) hx hb hta iM hown hK hP 0 rfl rfl 2 (by decide) (hta _ m_494) (fun _ h9 => h9) rfl dM_column_101 ?_
          refine lv_iconst (v := nI 1) hx hb dM_column_104 (by decide) ?_
          refine lv_iadd hx hb dM_column_105 ?_
          refine st_i (y := nI (M.co + 1)) (nI_add _ _) ?_
          refine va_put (D := (dC, dI)) (ci := 2) (v := .int (nI (M.co + 1))) (ty := .int) (C := RM) (T := FM) (N := 19) hx hb hta iM tM tM_ok nM hown hK hP hD hS 0 rfl rfl 2 (by decide) (hta _ m_494) (fun _ h9 => h9) rfl (by decide +kernel) rfl rfl (Nat.le_of_ble_eq_true rfl) dM_column_106 (fun H locs hP hD hS => ?_)
          have hP : va_P (dC, dI) vwCl (MW mo km (ms 0 M.wk (M.co + 1) (vp_updL M.cs M.co v) M.ro M.ki M.wo M.ri M.fa M.li M.ln M.hr M.st M.dn (va_up M.pl M.co (some M.co)) (va_up M.ou M.co M.co) (vp_updL M.ta (468 + M.co) v) M.nx M.ag)) H := hP
          have hD : va_D A (MW mo km (ms 0 M.wk (M.co + 1) (vp_updL M.cs M.co v) M.ro M.ki M.wo M.ri M.fa M.li M.ln M.hr M.st M.dn (va_up M.pl M.co (some M.co)) (va_up M.ou M.co M.co) (vp_updL M.ta (468 + M.co) v) M.nx M.ag)) := hD
          refine lv_aload_n hx hb dM_column_109 rfl (lv_at hl 0 rfl) ?_
          refine va_get (D := (dC, dI)) (ci := 2) (v := .int (nI (M.co + 1))) (C := RM) (T := FM) (N := 19) hx hb hta iM hown hK hP 0 rfl rfl 2 (by decide) (hta _ m_494) (fun _ h9 => h9) rfl dM_column_110 ?_
          refine lv_iconst (v := nI 1) hx hb dM_column_113 (by decide) ?_
          refine lv_isub hx hb dM_column_114 ?_
          refine st_i (y := nI M.co) (nI_pred _) ?_
          exact W.iret (v := nI M.co) hx hb hr (fun t ht hW => ⟨congrArg (fun z => Outcome.returned (some (.int z))) (by rw [clM, if_pos eC]), by rw [ht]; exact (by rw [clM, if_pos eC]; exact hP), hS.F ht⟩) hS.2.2 dM_column_115
        · exact absurd c_2 (by decide)
      · refine lv_iconst (v := nI 2) hx hb dM_column_32 (by decide) ?_
        refine lv_goto (tgt := 37) hx hb dM_column_33 (by decide) ?_
        have eC : coC M v = 2 := by first | (simp [coC, h1]; done) | (simp [coC, h1, h2]; done) | (simp [coC, h1, h2, h3]; done)
        refine va_put (D := (dC, dI)) (ci := 2) (v := .int (nI 2)) (ty := .int) (C := RM) (T := FM) (N := 19) hx hb hta iM tM tM_ok nM hown hK hP hD hS 0 rfl rfl 0 (by decide) (hta _ m_492) (fun _ h9 => h9) rfl (by decide +kernel) rfl rfl (Nat.le_of_ble_eq_true rfl) dM_column_37 (fun H locs hP hD hS => ?_)
        have hP : va_P (dC, dI) vwCl (MW mo km (mTh M 2)) H := hP
        have hD : va_D A (MW mo km (mTh M 2)) := hD
        refine lv_aload_n hx hb dM_column_40 rfl (lv_at hl 0 rfl) ?_
        refine va_get (D := (dC, dI)) (ci := 2) (v := .int (nI 2)) (C := RM) (T := FM) (N := 19) hx hb hta iM hown hK hP 0 rfl rfl 0 (by decide) (hta _ m_492) (fun _ h9 => h9) rfl dM_column_41 ?_
        refine lz_le (tgt := 49) hx hb dM_column_44 (by decide) (fun c_3 => ?_) (fun c_3 => ?_)
        · exact absurd c_3 (by decide)
        · refine lv_iconst (v := nI 0) hx hb dM_column_47 (by decide) ?_
          exact W.iret (v := nI 0) hx hb hr (fun t ht hW => ⟨congrArg (fun z => Outcome.returned (some (.int z))) (by rw [clM, if_neg (by rw [eC]; decide)]), by rw [ht]; exact (by rw [clM, if_neg (by rw [eC]; decide), eC]; exact hP), hS.F ht⟩) hS.2.2 dM_column_48
    · refine lv_iconst (v := nI 1) hx hb dM_column_17 (by decide) ?_
      refine lv_goto (tgt := 37) hx hb dM_column_18 (by decide) ?_
      have eC : coC M v = 1 := by first | (simp [coC, h1]; done) | (simp [coC, h1, h2]; done) | (simp [coC, h1, h2, h3]; done)
      refine va_put (D := (dC, dI)) (ci := 2) (v := .int (nI 1)) (ty := .int) (C := RM) (T := FM) (N := 19) hx hb hta iM tM tM_ok nM hown hK hP hD hS 0 rfl rfl 0 (by decide) (hta _ m_492) (fun _ h9 => h9) rfl (by decide +kernel) rfl rfl (Nat.le_of_ble_eq_true rfl) dM_column_37 (fun H locs hP hD hS => ?_)
      have hP : va_P (dC, dI) vwCl (MW mo km (mTh M 1)) H := hP
      have hD : va_D A (MW mo km (mTh M 1)) := hD
      refine lv_aload_n hx hb dM_column_40 rfl (lv_at hl 0 rfl) ?_
      refine va_get (D := (dC, dI)) (ci := 2) (v := .int (nI 1)) (C := RM) (T := FM) (N := 19) hx hb hta iM hown hK hP 0 rfl rfl 0 (by decide) (hta _ m_492) (fun _ h9 => h9) rfl dM_column_41 ?_
      refine lz_le (tgt := 49) hx hb dM_column_44 (by decide) (fun c_4 => ?_) (fun c_4 => ?_)
      · exact absurd c_4 (by decide)
      · refine lv_iconst (v := nI 0) hx hb dM_column_47 (by decide) ?_
        exact W.iret (v := nI 0) hx hb hr (fun t ht hW => ⟨congrArg (fun z => Outcome.returned (some (.int z))) (by rw [clM, if_neg (by rw [eC]; decide)]), by rw [ht]; exact (by rw [clM, if_neg (by rw [eC]; decide), eC]; exact hP), hS.F ht⟩) hS.2.2 dM_column_48

set_option maxHeartbeats 4000000 in
set_option maxRecDepth 100000 in
theorem c_M_row (l : Launch) (dC : Nat → ClassId) (dI : Nat → Nat → Nat) (mo : Nat → Nat) (km : Nat → ClassId) (M : MS) (sz : Nat) (kd wk : Int32) (b : Int64) (hro : M.ro ≤ 12) : Met l yM_row wM_row ({ frames := 1, cells := 0, slots := 0, locals := 25 }) (wPc [.ref (mo 0), .int kd, .int wk, .long b] sz (dC, dI) vwCl (MW mo km M) (MK km) xT) (wQ (some (.int ((rwM M kd wk b).1))) (dC, dI) vwCl (MW mo km ((rwM M kd wk b).2)) (va_A (MW mo km M) sz)) 0 0 (va_A (MW mo km M) sz) := by
  refine Met.ofW (cc := bM_row) (maxL := 5) (ret := (some .int)) (by decide) rfl ?_
  intro p e s m args below meth c s₁ B hml hv
  obtain ⟨rfl, hsz, hP, hK, hD0, hX⟩ := hv
  have hx := B.exec
  have hb := B.bytes
  have hr := B.returns
  have hts := atoms_spec (ws := wM_row) B.pre
  have hta : ∀ w ∈ AW, w.before _ s = true := fun w h => hts w (List.mem_cons_of_mem _ h)
  have hown : s.vm.findClass RM = some m.cls := findClass_of_methodNamed B.named
  have hlocks := B.notSynchronized
  subst hsz
  have hD := hD0.self (sz := s.heap.size)
  generalize hAe : va_A (MW mo km M) s.heap.size = A at hD ⊢
  have hA : ∀ q : Nat, s.heap.size ≤ q → A q := fun q h => by rw [← hAe]; exact Or.inr h
  have hS : va_S A s.heap s.heap [] := va_S.rf
  have hl := lv_entry ([.ref (mo 0), .int kd, .int wk, .long b]) (n := 5) (Nat.le_of_ble_eq_true rfl)
  rw [lg_entry_eq]
  generalize (lg_sl ([.ref (mo 0), .int kd, .int wk, .long b]) ++ List.replicate (5 - (lg_sl ([.ref (mo 0), .int kd, .int wk, .long b])).length) Slot.unset).toArray = ls at hl ⊢
  have hl : lv_has ls 5 [(0, .ref (mo 0)), (1, .int kd), (2, .int wk), (3, .long b)] := hl
  refine lv_aload_n hx hb dM_row_0 rfl (lv_at hl 0 rfl) ?_
  refine lv_aload_n hx hb dM_row_1 rfl (lv_at hl 0 rfl) ?_
  refine va_get (D := (dC, dI)) (ci := 2) (v := .int (nI M.ro)) (C := RM) (T := FM) (N := 19) hx hb hta iM hown hK hP 0 rfl rfl 4 (by decide) (hta _ m_496) (fun _ h9 => h9) rfl dM_row_2 ?_
  refine lv_bipush (v := nI 12) hx hb dM_row_5 (by decide) ?_
  refine ni_ne (tgt := 14) hx hb dM_row_7 (by decide) (by omega) (by omega) (fun h1 => ?_) (fun h1 => ?_)
  · refine lv_iload_n hx hb dM_row_14 rfl (lv_at hl 1 rfl) ?_
    refine lv_i2l (v := kd.toInt64) hx hb dM_row_15 rfl ?_
    refine lv_lconst (v := 0) hx hb dM_row_16 (by decide) ?_
    refine lv_ldc2 (v := 2) hx hb hown (hta _ m_566) dM_row_17 ?_
    refine rd_call (va_runS (As := [.long kd.toInt64, .long 0, .long 2]) (rest := [.ref (mo 0)]) ⟨hx, hb, hml, hown, hta⟩ (c_M_isIn l dC dI mo km kd.toInt64 0 2) (cwS 3 hta (gS m_559 m_560 m_4 m_561) rfl rfl rfl (by decide +kernel) ⟨Nat.le_of_ble_eq_true rfl, Nat.le_of_ble_eq_true rfl⟩) (rd_S xT_ok trivial (hK.sub [] rfl) va_P_nil) rfl rfl hl.1 rfl (lv_room (Nat.le_of_ble_eq_true rfl)) dM_row_20 ⟨Nat.zero_le _, Nat.zero_le _⟩) ?_
    refine W.eq (g2 := F0 m 23 ls [.int (bI (isInB kd.toInt64 0 2)), .ref (mo 0)]) rfl ?_
    refine lb_eq (tgt := 55) hx hb dM_row_23 (by decide) (fun h2 => ?_) (fun h2 => ?_)
    · refine lv_iconst (v := nI 2) hx hb dM_row_55 (by decide) ?_
      refine lv_goto (tgt := 60) hx hb dM_row_56 (by decide) ?_
      have eC : roC M kd wk b = 2 := by first | (simp [roC, h1]; done) | (simp [roC, h1, h2]; done) | (simp [roC, h1, h2, h3]; done) | (simp [roC, h1, h2, h3, h4]; done)
      refine va_put (D := (dC, dI)) (ci := 2) (v := .int (nI 2)) (ty := .int) (C := RM) (T := FM) (N := 19) hx hb hta iM tM tM_ok nM hown hK hP hD hS 0 rfl rfl 0 (by decide) (hta _ m_492) (fun _ h9 => h9) rfl (by decide +kernel) rfl rfl (Nat.le_of_ble_eq_true rfl) dM_row_60 (fun H locs hP hD hS => ?_)
      have hP : va_P (dC, dI) vwCl (MW mo km (mTh M 2)) H := hP
      have hD : va_D A (MW mo km (mTh M 2)) := hD
      refine lv_aload_n hx hb dM_row_63 rfl (lv_at hl 0 rfl) ?_
      refine va_get (D := (dC, dI)) (ci := 2) (v := .int (nI 2)) (C := RM) (T := FM) (N := 19) hx hb hta iM hown hK hP 0 rfl rfl 0 (by decide) (hta _ m_492) (fun _ h9 => h9) rfl dM_row_64 ?_
      refine lz_le (tgt := 74) hx hb dM_row_67 (by decide) (fun c_1 => ?_) (fun c_1 => ?_)
      · exact absurd c_1 (by decide)
      · refine lv_iconst (v := nI 0) hx hb dM_row_70 (by decide) ?_
        refine lv_goto (tgt := 81) hx hb dM_row_71 (by decide) ?_
        exact W.iret (v := nI 0) hx hb hr (fun t ht hW => ⟨congrArg (fun z => Outcome.returned (some (.int z))) (by first | (rw [rwM, if_neg (by rw [eC]; decide)]; done) | (rw [rwM, if_pos eC]; done)), by rw [ht]; exact (by first | (rw [rwM, if_neg (by rw [eC]; decide), eC]; exact hP; done) | (rw [rwM, if_pos eC]; exact hP)), hS.F ht⟩) hS.2.2 dM_row_81
    · refine lv_iload_n hx hb dM_row_26 rfl (lv_at hl 2 rfl) ?_
      refine lv_i2l (v := wk.toInt64) hx hb dM_row_27 rfl ?_
      refine lv_lconst (v := 0) hx hb dM_row_28 (by decide) ?_
      refine lv_aload_n hx hb dM_row_29 rfl (lv_at hl 0 rfl) ?_
      refine va_get (D := (dC, dI)) (ci := 2) (v := .int M.wk) (C := RM) (T := FM) (N := 19) hx hb hta iM hown hK hP 0 rfl rfl 1 (by decide) (hta _ m_493) (fun _ h9 => h9) rfl dM_row_30 ?_
      refine lv_iconst (v := 1) hx hb dM_row_33 (by decide) ?_
      refine lv_isub hx hb dM_row_34 ?_
      refine lv_i2l (v := (M.wk - 1).toInt64) hx hb dM_row_35 rfl ?_
      refine rd_call (va_runS (As := [.long wk.toInt64, .long 0, .long ((M.wk - 1).toInt64)]) (rest := [.ref (mo 0)]) ⟨hx, hb, hml, hown, hta⟩ (c_M_isIn l dC dI mo km wk.toInt64 0 ((M.wk - 1).toInt64)) (cwS 3 hta (gS m_559 m_560 m_4 m_561) rfl rfl rfl (by decide +kernel) ⟨Nat.le_of_ble_eq_true rfl, Nat.le_of_ble_eq_true rfl⟩) (rd_S xT_ok trivial (hK.sub [] rfl) va_P_nil) rfl rfl hl.1 rfl (lv_room (Nat.le_of_ble_eq_true rfl)) dM_row_36 ⟨Nat.zero_le _, Nat.zero_le _⟩) ?_
      refine W.eq (g2 := F0 m 39 ls [.int (bI (isInB wk.toInt64 0 ((M.wk - 1).toInt64))), .ref (mo 0)]) rfl ?_
      refine lb_eq (tgt := 55) hx hb dM_row_39 (by decide) (fun h3 => ?_) (fun h3 => ?_)
      · refine lv_iconst (v := nI 2) hx hb dM_row_55 (by decide) ?_
        refine lv_goto (tgt := 60) hx hb dM_row_56 (by decide) ?_
        have eC : roC M kd wk b = 2 := by first | (simp [roC, h1]; done) | (simp [roC, h1, h2]; done) | (simp [roC, h1, h2, h3]; done) | (simp [roC, h1, h2, h3, h4]; done)
        refine va_put (D := (dC, dI)) (ci := 2) (v := .int (nI 2)) (ty := .int) (C := RM) (T := FM) (N := 19) hx hb hta iM tM tM_ok nM hown hK hP hD hS 0 rfl rfl 0 (by decide) (hta _ m_492) (fun _ h9 => h9) rfl (by decide +kernel) rfl rfl (Nat.le_of_ble_eq_true rfl) dM_row_60 (fun H locs hP hD hS => ?_)
        have hP : va_P (dC, dI) vwCl (MW mo km (mTh M 2)) H := hP
        have hD : va_D A (MW mo km (mTh M 2)) := hD
        refine lv_aload_n hx hb dM_row_63 rfl (lv_at hl 0 rfl) ?_
        refine va_get (D := (dC, dI)) (ci := 2) (v := .int (nI 2)) (C := RM) (T := FM) (N := 19) hx hb hta iM hown hK hP 0 rfl rfl 0 (by decide) (hta _ m_492) (fun _ h9 => h9) rfl dM_row_64 ?_
        refine lz_le (tgt := 74) hx hb dM_row_67 (by decide) (fun c_2 => ?_) (fun c_2 => ?_)
        · exact absurd c_2 (by decide)
        · refine lv_iconst (v := nI 0) hx hb dM_row_70 (by decide) ?_
          refine lv_goto (tgt := 81) hx hb dM_row_71 (by decide) ?_
          exact W.iret (v := nI 0) hx hb hr (fun t ht hW => ⟨congrArg (fun z => Outcome.returned (some (.int z))) (by first | (rw [rwM, if_neg (by rw [eC]; decide)]; done) | (rw [rwM, if_pos eC]; done)), by rw [ht]; exact (by first | (rw [rwM, if_neg (by rw [eC]; decide), eC]; exact hP; done) | (rw [rwM, if_pos eC]; exact hP)), hS.F ht⟩) hS.2.2 dM_row_81
      · refine lv_lload_n hx hb dM_row_42 rfl (lv_at hl 3 rfl) ?_
        refine lv_ldc2 (v := (-1000000)) hx hb hown (hta _ m_567) dM_row_43 ?_
        refine lv_ldc2 (v := 1000000) hx hb hown (hta _ m_568) dM_row_46 ?_
        refine rd_call (va_runS (As := [.long b, .long (-1000000), .long 1000000]) (rest := [.ref (mo 0)]) ⟨hx, hb, hml, hown, hta⟩ (c_M_isIn l dC dI mo km b (-1000000) 1000000) (cwS 3 hta (gS m_559 m_560 m_4 m_561) rfl rfl rfl (by decide +kernel) ⟨Nat.le_of_ble_eq_true rfl, Nat.le_of_ble_eq_true rfl⟩) (rd_S xT_ok trivial (hK.sub [] rfl) va_P_nil) rfl rfl hl.1 rfl (lv_room (Nat.le_of_ble_eq_true rfl)) dM_row_49 ⟨Nat.zero_le _, Nat.zero_le _⟩) ?_
        refine W.eq (g2 := F0 m 52 ls [.int (bI (isInB b (-1000000) 1000000)), .ref (mo 0)]) rfl ?_
        refine lb_ne (tgt := 59) hx hb dM_row_52 (by decide) (fun h4 => ?_) (fun h4 => ?_)
        · refine lv_iconst (v := nI 0) hx hb dM_row_59 (by decide) ?_
          have eC : roC M kd wk b = 0 := by first | (simp [roC, h1]; done) | (simp [roC, h1, h2]; done) | (simp [roC, h1, h2, h3]; done) | (simp [roC, h1, h2, h3, h4]; done)
          refine va_put (D := (dC, dI)) (ci := 2) (v := .int (nI 0)) (ty := .int) (C := RM) (T := FM) (N := 19) hx hb hta iM tM tM_ok nM hown hK hP hD hS 0 rfl rfl 0 (by decide) (hta _ m_492) (fun _ h9 => h9) rfl (by decide +kernel) rfl rfl (Nat.le_of_ble_eq_true rfl) dM_row_60 (fun H locs hP hD hS => ?_)
          have hP : va_P (dC, dI) vwCl (MW mo km (mTh M 0)) H := hP
          have hD : va_D A (MW mo km (mTh M 0)) := hD
          refine lv_aload_n hx hb dM_row_63 rfl (lv_at hl 0 rfl) ?_
          refine va_get (D := (dC, dI)) (ci := 2) (v := .int (nI 0)) (C := RM) (T := FM) (N := 19) hx hb hta iM hown hK hP 0 rfl rfl 0 (by decide) (hta _ m_492) (fun _ h9 => h9) rfl dM_row_64 ?_
          refine lz_le (tgt := 74) hx hb dM_row_67 (by decide) (fun c_3 => ?_) (fun c_3 => ?_)
          · refine lv_aload_n hx hb dM_row_74 rfl (lv_at hl 0 rfl) ?_
            refine lv_iload_n hx hb dM_row_75 rfl (lv_at hl 1 rfl) ?_
            refine lv_iload_n hx hb dM_row_76 rfl (lv_at hl 2 rfl) ?_
            refine lv_lload_n hx hb dM_row_77 rfl (lv_at hl 3 rfl) ?_
            refine wr_call (X := ([] : va_W)) (va_runV (As := [.int kd, .int wk, .long b]) (rest := []) ⟨hx, hb, hml, hown, hta⟩ (c_M_add l dC dI mo km (mTh M 0) H.size kd wk b (show M.ro < 12 by omega)) (cwV 3 hta (gV m_569 m_571 mp_40 m_4 m_572) rfl rfl rfl (by decide +kernel) ⟨Nat.le_of_ble_eq_true rfl, Nat.le_of_ble_eq_true rfl⟩) (wr_V xT_ok trivial hK hP hD (ci := 2) (q0 := 0) rfl rfl) rfl rfl hl.1 rfl (lv_room (Nat.le_of_ble_eq_true rfl)) dM_row_78 ⟨Nat.zero_le _, Nat.zero_le _⟩) hP hD hS hA rfl (fun H locs hP hD hS => ?_)
            have hP : va_P (dC, dI) vwCl (MW mo km (adM (mTh M 0) kd wk b)) H := hP
            have hD : va_D A (MW mo km (adM (mTh M 0) kd wk b)) := hD
            refine W.eq (g2 := F0 m 81 ls [.int (nI M.ro)]) rfl ?_
            exact W.iret (v := nI M.ro) hx hb hr (fun t ht hW => ⟨congrArg (fun z => Outcome.returned (some (.int z))) (by first | (rw [rwM, if_neg (by rw [eC]; decide)]; done) | (rw [rwM, if_pos eC]; done)), by rw [ht]; exact (by first | (rw [rwM, if_neg (by rw [eC]; decide), eC]; exact hP; done) | (rw [rwM, if_pos eC]; exact hP)), hS.F ht⟩) hS.2.2 dM_row_81
          · exact absurd c_3 (by decide)
        · refine lv_iconst (v := nI 2) hx hb dM_row_55 (by decide) ?_
          refine lv_goto (tgt := 60) hx hb dM_row_56 (by decide) ?_
          have eC : roC M kd wk b = 2 := by first | (simp [roC, h1]; done) | (simp [roC, h1, h2]; done) | (simp [roC, h1, h2, h3]; done) | (simp [roC, h1, h2, h3, h4]; done)
          refine va_put (D := (dC, dI)) (ci := 2) (v := .int (nI 2)) (ty := .int) (C := RM) (T := FM) (N := 19) hx hb hta iM tM tM_ok nM hown hK hP hD hS 0 rfl rfl 0 (by decide) (hta _ m_492) (fun _ h9 => h9) rfl (by decide +kernel) rfl rfl (Nat.le_of_ble_eq_true rfl) dM_row_60 (fun H locs hP hD hS => ?_)
          have hP : va_P (dC, dI) vwCl (MW mo km (mTh M 2)) H := hP
          have hD : va_D A (MW mo km (mTh M 2)) := hD
          refine lv_aload_n hx hb dM_row_63 rfl (lv_at hl 0 rfl) ?_
          refine va_get (D := (dC, dI)) (ci := 2) (v := .int (nI 2)) (C := RM) (T := FM) (N := 19) hx hb hta iM hown hK hP 0 rfl rfl 0 (by decide) (hta _ m_492) (fun _ h9 => h9) rfl dM_row_64 ?_
          refine lz_le (tgt := 74) hx hb dM_row_67 (by decide) (fun c_4 => ?_) (fun c_4 => ?_)
          · exact absurd c_4 (by decide)
          · refine lv_iconst (v := nI 0) hx hb dM_row_70 (by decide) ?_
            refine lv_goto (tgt := 81) hx hb dM_row_71 (by decide) ?_
            exact W.iret (v := nI 0) hx hb hr (fun t ht hW => ⟨congrArg (fun z => Outcome.returned (some (.int z))) (by first | (rw [rwM, if_neg (by rw [eC]; decide)]; done) | (rw [rwM, if_pos eC]; done)), by rw [ht]; exact (by first | (rw [rwM, if_neg (by rw [eC]; decide), eC]; exact hP; done) | (rw [rwM, if_pos eC]; exact hP)), hS.F ht⟩) hS.2.2 dM_row_81
  · refine lv_iconst (v := nI 1) hx hb dM_row_10 (by decide) ?_
    refine lv_goto (tgt := 60) hx hb dM_row_11 (by decide) ?_
    have eC : roC M kd wk b = 1 := by first | (simp [roC, h1]; done) | (simp [roC, h1, h2]; done) | (simp [roC, h1, h2, h3]; done) | (simp [roC, h1, h2, h3, h4]; done)
    refine va_put (D := (dC, dI)) (ci := 2) (v := .int (nI 1)) (ty := .int) (C := RM) (T := FM) (N := 19) hx hb hta iM tM tM_ok nM hown hK hP hD hS 0 rfl rfl 0 (by decide) (hta _ m_492) (fun _ h9 => h9) rfl (by decide +kernel) rfl rfl (Nat.le_of_ble_eq_true rfl) dM_row_60 (fun H locs hP hD hS => ?_)
    have hP : va_P (dC, dI) vwCl (MW mo km (mTh M 1)) H := hP
    have hD : va_D A (MW mo km (mTh M 1)) := hD
    refine lv_aload_n hx hb dM_row_63 rfl (lv_at hl 0 rfl) ?_
    refine va_get (D := (dC, dI)) (ci := 2) (v := .int (nI 1)) (C := RM) (T := FM) (N := 19) hx hb hta iM hown hK hP 0 rfl rfl 0 (by decide) (hta _ m_492) (fun _ h9 => h9) rfl dM_row_64 ?_
    refine lz_le (tgt := 74) hx hb dM_row_67 (by decide) (fun c_5 => ?_) (fun c_5 => ?_)
    · exact absurd c_5 (by decide)
    · refine lv_iconst (v := nI 0) hx hb dM_row_70 (by decide) ?_
      refine lv_goto (tgt := 81) hx hb dM_row_71 (by decide) ?_
      exact W.iret (v := nI 0) hx hb hr (fun t ht hW => ⟨congrArg (fun z => Outcome.returned (some (.int z))) (by first | (rw [rwM, if_neg (by rw [eC]; decide)]; done) | (rw [rwM, if_pos eC]; done)), by rw [ht]; exact (by first | (rw [rwM, if_neg (by rw [eC]; decide), eC]; exact hP; done) | (rw [rwM, if_pos eC]; exact hP)), hS.F ht⟩) hS.2.2 dM_row_81

set_option maxHeartbeats 4000000 in
set_option maxRecDepth 100000 in
theorem c_M_value (l : Launch) (dC : Nat → ClassId) (dI : Nat → Nat → Nat) (mo : Nat → Nat) (km : Nat → ClassId) (M : MS) (sz : Nat) (pt : Int32) (hz : gcZ 100 (szR (M.ta 480)) M.dn = true) (hne : ¬ gcL 100 (szR (M.ta 480)) M.dn = 0) : Met l yM_value wM_value ({ frames := 2, cells := 0, slots := 0, locals := 50 }) (wPc [.ref (mo 0), .int pt] sz (dC, dI) vwCl (MW mo km M) (MK km) xT) (wQ (some (.long ((vaM M pt).1))) (dC, dI) vwCl (MW mo km ((vaM M pt).2)) (va_A (MW mo km M) sz)) 0 0 (va_A (MW mo km M) sz) := by
  refine Met.ofW (cc := bM_value) (maxL := 2) (ret := (some .long)) (by decide) rfl ?_
  intro p e s m args below meth c s₁ B hml hv
  obtain ⟨rfl, hsz, hP, hK, hD0, hX⟩ := hv
  have hx := B.exec
  have hb := B.bytes
  have hr := B.returns
  have hts := atoms_spec (ws := wM_value) B.pre
  have hta : ∀ w ∈ AW, w.before _ s = true := fun w h => hts w (List.mem_cons_of_mem _ h)
  have hown : s.vm.findClass RM = some m.cls := findClass_of_methodNamed B.named
  have hlocks := B.notSynchronized
  subst hsz
  have hD := hD0.self (sz := s.heap.size)
  generalize hAe : va_A (MW mo km M) s.heap.size = A at hD ⊢
  have hA : ∀ q : Nat, s.heap.size ≤ q → A q := fun q h => by rw [← hAe]; exact Or.inr h
  have hS : va_S A s.heap s.heap [] := va_S.rf
  have hl := lv_entry ([.ref (mo 0), .int pt]) (n := 2) (Nat.le_of_ble_eq_true rfl)
  rw [lg_entry_eq]
  generalize (lg_sl ([.ref (mo 0), .int pt]) ++ List.replicate (2 - (lg_sl ([.ref (mo 0), .int pt])).length) Slot.unset).toArray = ls at hl ⊢
  have hl : lv_has ls 2 [(0, .ref (mo 0)), (1, .int pt)] := hl
  refine lv_aload_n hx hb dM_value_0 rfl (lv_at hl 0 rfl) ?_
  refine lv_aload_n hx hb dM_value_1 rfl (lv_at hl 0 rfl) ?_
  refine lv_iload_n hx hb dM_value_2 rfl (lv_at hl 1 rfl) ?_
  refine rd_call (va_runV (As := [.int pt]) (rest := [.ref (mo 0)]) ⟨hx, hb, hml, hown, hta⟩ (c_M_isPart l dC dI mo km M pt) (cwV 1 hta (gV m_628 m_630 mp_48 m_4 m_631) rfl rfl rfl (by decide +kernel) ⟨Nat.le_of_ble_eq_true rfl, Nat.le_of_ble_eq_true rfl⟩) (rd_V xT_ok trivial hK hP (ci := 2) (q0 := 0) rfl rfl) rfl rfl hl.1 rfl (lv_room (Nat.le_of_ble_eq_true rfl)) dM_value_3 ⟨Nat.zero_le _, Nat.zero_le _⟩) ?_
  refine W.eq (g2 := F0 m 6 ls [.int (bI (paB pt)), .ref (mo 0)]) rfl ?_
  refine lb_eq (tgt := 13) hx hb dM_value_6 (by decide) (fun h1 => ?_) (fun h1 => ?_)
  · refine lv_iconst (v := nI 1) hx hb dM_value_13 (by decide) ?_
    refine va_put (D := (dC, dI)) (ci := 2) (v := .int (nI 1)) (ty := .int) (C := RM) (T := FM) (N := 19) hx hb hta iM tM tM_ok nM hown hK hP hD hS 0 rfl rfl 0 (by decide) (hta _ m_492) (fun _ h9 => h9) rfl (by decide +kernel) rfl rfl (Nat.le_of_ble_eq_true rfl) dM_value_14 (fun H locs hP hD hS => ?_)
    have hP : va_P (dC, dI) vwCl (MW mo km (mTh M 1)) H := hP
    have hD : va_D A (MW mo km (mTh M 1)) := hD
    refine lv_aload_n hx hb dM_value_17 rfl (lv_at hl 0 rfl) ?_
    refine va_get (D := (dC, dI)) (ci := 2) (v := .int (nI 1)) (C := RM) (T := FM) (N := 19) hx hb hta iM hown hK hP 0 rfl rfl 0 (by decide) (hta _ m_492) (fun _ h9 => h9) rfl dM_value_18 ?_
    refine lz_le (tgt := 28) hx hb dM_value_21 (by decide) (fun c_1 => ?_) (fun c_1 => ?_)
    · exact absurd c_1 (by decide)
    · refine lv_lconst (v := 0) hx hb dM_value_24 (by decide) ?_
      refine lv_goto (tgt := 41) hx hb dM_value_25 (by decide) ?_
      exact W.lret (v := 0) hx hb hr (fun t ht hW => ⟨congrArg (fun z => Outcome.returned (some (.long z))) (by first | (rw [vaM, if_pos h1]; done) | (rw [vaM, if_neg (by rw [h1]; decide)]; done)), by rw [ht]; exact (by first | (rw [vaM, if_pos h1]; exact hP; done) | (rw [vaM, if_neg (by rw [h1]; decide)]; exact hP)), hS.F ht⟩) hS.2.2 dM_value_41
  · refine lv_iconst (v := nI 0) hx hb dM_value_9 (by decide) ?_
    refine lv_goto (tgt := 14) hx hb dM_value_10 (by decide) ?_
    refine va_put (D := (dC, dI)) (ci := 2) (v := .int (nI 0)) (ty := .int) (C := RM) (T := FM) (N := 19) hx hb hta iM tM tM_ok nM hown hK hP hD hS 0 rfl rfl 0 (by decide) (hta _ m_492) (fun _ h9 => h9) rfl (by decide +kernel) rfl rfl (Nat.le_of_ble_eq_true rfl) dM_value_14 (fun H locs hP hD hS => ?_)
    have hP : va_P (dC, dI) vwCl (MW mo km (mTh M 0)) H := hP
    have hD : va_D A (MW mo km (mTh M 0)) := hD
    refine lv_aload_n hx hb dM_value_17 rfl (lv_at hl 0 rfl) ?_
    refine va_get (D := (dC, dI)) (ci := 2) (v := .int (nI 0)) (C := RM) (T := FM) (N := 19) hx hb hta iM hown hK hP 0 rfl rfl 0 (by decide) (hta _ m_492) (fun _ h9 => h9) rfl dM_value_18 ?_
    refine lz_le (tgt := 28) hx hb dM_value_21 (by decide) (fun c_2 => ?_) (fun c_2 => ?_)
    · refine lv_aload_n hx hb dM_value_28 rfl (lv_at hl 0 rfl) ?_
      refine lv_aload_n hx hb dM_value_29 rfl (lv_at hl 0 rfl) ?_
      refine va_get (D := (dC, dI)) (ci := 2) (v := .ref (mo 9)) (C := RM) (T := FM) (N := 19) hx hb hta iM hown hK hP 0 rfl rfl 16 (by decide) (hta _ m_508) (fun _ h9 => h9) rfl dM_value_30 ?_
      refine lv_sipush (v := nI 480) hx hb dM_value_33 (by decide) ?_
      refine na_lald hx hb hK hP 9 8 rfl rfl (i := 480) (by omega) (by decide) dM_value_36 ?_
      refine lv_iload_n hx hb dM_value_37 rfl (lv_at hl 1 rfl) ?_
      refine rd_call (va_runV (As := [.long (M.ta 480), .int pt]) (rest := []) ⟨hx, hb, hml, hown, hta⟩ (c_M_fraction l dC dI mo km (mTh M 0) (M.ta 480) pt hz hne) (cwV 2 hta (gV m_632 m_634 mp_49 m_4 m_635) rfl rfl rfl (by decide +kernel) ⟨Nat.le_of_ble_eq_true rfl, Nat.le_of_ble_eq_true rfl⟩) (rd_V xT_ok trivial hK hP (ci := 2) (q0 := 0) rfl rfl) rfl rfl hl.1 rfl (lv_room (Nat.le_of_ble_eq_true rfl)) dM_value_38 ⟨Nat.zero_le _, Nat.zero_le _⟩) ?_
      refine W.eq (g2 := F0 m 41 ls [.long (frR (M.ta 480) M.dn pt)]) rfl ?_
      exact W.lret (v := frR (M.ta 480) M.dn pt) hx hb hr (fun t ht hW => ⟨congrArg (fun z => Outcome.returned (some (.long z))) (by first | (rw [vaM, if_pos h1]; done) | (rw [vaM, if_neg (by rw [h1]; decide)]; done)), by rw [ht]; exact (by first | (rw [vaM, if_pos h1]; exact hP; done) | (rw [vaM, if_neg (by rw [h1]; decide)]; exact hP)), hS.F ht⟩) hS.2.2 dM_value_41
    · exact absurd c_2 (by decide)

set_option maxHeartbeats 4000000 in
set_option maxRecDepth 100000 in
theorem c_M_steps (l : Launch) (dC : Nat → ClassId) (dI : Nat → Nat → Nat) (mo : Nat → Nat) (km : Nat → ClassId) (M : MS) (sz : Nat)   : Met l yM_steps wM_steps ({ frames := 0, cells := 0, slots := 0, locals := 0 }) (wPc [.ref (mo 0)] sz (dC, dI) vwCl (MW mo km M) (MK km) xT) (wQ (some (.int M.st)) (dC, dI) vwCl (MW mo km (mTh M 0)) (va_A (MW mo km M) sz)) 0 0 (va_A (MW mo km M) sz) := by
  refine Met.ofW (cc := bM_steps) (maxL := 1) (ret := (some .int)) (by decide) rfl ?_
  intro p e s m args below meth c s₁ B hml hv
  obtain ⟨rfl, hsz, hP, hK, hD0, hX⟩ := hv
  have hx := B.exec
  have hb := B.bytes
  have hr := B.returns
  have hts := atoms_spec (ws := wM_steps) B.pre
  have hta : ∀ w ∈ AW, w.before _ s = true := fun w h => hts w (List.mem_cons_of_mem _ h)
  have hown : s.vm.findClass RM = some m.cls := findClass_of_methodNamed B.named
  have hlocks := B.notSynchronized
  subst hsz
  have hD := hD0.self (sz := s.heap.size)
  generalize hAe : va_A (MW mo km M) s.heap.size = A at hD ⊢
  have hA : ∀ q : Nat, s.heap.size ≤ q → A q := fun q h => by rw [← hAe]; exact Or.inr h
  have hS : va_S A s.heap s.heap [] := va_S.rf
  have hl := lv_entry ([.ref (mo 0)]) (n := 1) (Nat.le_of_ble_eq_true rfl)
  rw [lg_entry_eq]
  generalize (lg_sl ([.ref (mo 0)]) ++ List.replicate (1 - (lg_sl ([.ref (mo 0)])).length) Slot.unset).toArray = ls at hl ⊢
  have hl : lv_has ls 1 [(0, .ref (mo 0))] := hl
  refine lv_aload_n hx hb dM_steps_0 rfl (lv_at hl 0 rfl) ?_
  refine lv_iconst (v := nI 0) hx hb dM_steps_1 (by decide) ?_
  refine va_put (D := (dC, dI)) (ci := 2) (v := .int (nI 0)) (ty := .int) (C := RM) (T := FM) (N := 19) hx hb hta iM tM tM_ok nM hown hK hP hD hS 0 rfl rfl 0 (by decide) (hta _ m_492) (fun _ h9 => h9) rfl (by decide +kernel) rfl rfl (Nat.le_of_ble_eq_true rfl) dM_steps_2 (fun H locs hP hD hS => ?_)
  have hP : va_P (dC, dI) vwCl (MW mo km (mTh M 0)) H := hP
  have hD : va_D A (MW mo km (mTh M 0)) := hD
  refine lv_aload_n hx hb dM_steps_5 rfl (lv_at hl 0 rfl) ?_
  refine va_get (D := (dC, dI)) (ci := 2) (v := .int M.st) (C := RM) (T := FM) (N := 19) hx hb hta iM hown hK hP 0 rfl rfl 12 (by decide) (hta _ m_504) (fun _ h9 => h9) rfl dM_steps_6 ?_
  exact W.iret (v := M.st) hx hb hr (fun t ht hW => ⟨rfl, by rw [ht]; exact hP, hS.F ht⟩) hS.2.2 dM_steps_9

set_option maxHeartbeats 4000000 in
set_option maxRecDepth 100000 in
theorem c_M_check (l : Launch) (dC : Nat → ClassId) (dI : Nat → Nat → Nat) (mo : Nat → Nat) (km : Nat → ClassId) (M : MS) (sz : Nat)  (hpl : ∀ v k, M.pl v = some k → k < 12) (hco : M.co ≤ 12) (hro : M.ro ≤ 12) : Met l yM_check wM_check ({ frames := 1, cells := 0, slots := 0, locals := 21 }) (wPc [.ref (mo 0)] sz (dC, dI) vwCl (MW mo km M) (MK km) xT) (wQ (some (.int (nI (ckR M 0 M.ro)))) (dC, dI) vwCl (MW mo km (mTh M 0)) (va_A (MW mo km M) sz)) 0 0 (va_A (MW mo km M) sz) := by
  refine Met.ofW (cc := bM_check) (maxL := 5) (ret := (some .int)) (by decide) rfl ?_
  intro p e s m args below meth c s₁ B hml hv
  obtain ⟨rfl, hsz, hP, hK, hD0, hX⟩ := hv
  have hx := B.exec
  have hb := B.bytes
  have hr := B.returns
  have hts := atoms_spec (ws := wM_check) B.pre
  have hta : ∀ w ∈ AW, w.before _ s = true := fun w h => hts w (List.mem_cons_of_mem _ h)
  have hown : s.vm.findClass RM = some m.cls := findClass_of_methodNamed B.named
  have hlocks := B.notSynchronized
  subst hsz
  have hD := hD0.self (sz := s.heap.size)
  generalize hAe : va_A (MW mo km M) s.heap.size = A at hD ⊢
  have hA : ∀ q : Nat, s.heap.size ≤ q → A q := fun q h => by rw [← hAe]; exact Or.inr h
  have hS : va_S A s.heap s.heap [] := va_S.rf
  have hl := lv_entry ([.ref (mo 0)]) (n := 5) (Nat.le_of_ble_eq_true rfl)
  rw [lg_entry_eq]
  generalize (lg_sl ([.ref (mo 0)]) ++ List.replicate (5 - (lg_sl ([.ref (mo 0)])).length) Slot.unset).toArray = ls at hl ⊢
  have hl : lv_has ls 5 [(0, .ref (mo 0))] := hl
  refine lv_aload_n hx hb dM_check_0 rfl (lv_at hl 0 rfl) ?_
  refine lv_iconst (v := nI 0) hx hb dM_check_1 (by decide) ?_
  refine va_put (D := (dC, dI)) (ci := 2) (v := .int (nI 0)) (ty := .int) (C := RM) (T := FM) (N := 19) hx hb hta iM tM tM_ok nM hown hK hP hD hS 0 rfl rfl 0 (by decide) (hta _ m_492) (fun _ h9 => h9) rfl (by decide +kernel) rfl rfl (Nat.le_of_ble_eq_true rfl) dM_check_2 (fun H locs hP hD hS => ?_)
  have hP : va_P (dC, dI) vwCl (MW mo km (mTh M 0)) H := hP
  have hD : va_D A (MW mo km (mTh M 0)) := hD
  refine lv_iconst (v := nI 0) hx hb dM_check_5 (by decide) ?_
  refine lv_istore_n (lv' := [(1, .int (nI 0)), (0, .ref (mo 0))]) hx hb dM_check_6 rfl hl (by decide) rfl (fun ls hl => ?_)
  have loop7 : ∀ (n : Nat) (i : Nat) (ls : Array Slot), (i + n = M.ro) → (ckR M i n = ckR M 0 M.ro) → lv_has ls 5 [(1, .int (nI i)), (0, .ref (mo 0))] → W p l e (headSpec wM_check ({ frames := 1, cells := 0, slots := 0, locals := 21 })).room s m ([.ref (mo 0)] : List Value).toArray below meth c H locs 0 0 (MQ below (wQ (some (.int (nI (ckR M 0 M.ro)))) (dC, dI) vwCl (MW mo km (mTh M 0)) A) ([.ref (mo 0)] : List Value).toArray s 0 0 A) (F0 m 7 ls []) := by
    intro n
    induction n with
    | zero =>
      intro i ls hn hq hl
      refine lv_iload_n hx hb dM_check_7 rfl (lv_at hl 0 rfl) ?_
      refine lv_aload_n hx hb dM_check_8 rfl (lv_at hl 1 rfl) ?_
      refine va_get (D := (dC, dI)) (ci := 2) (v := .int (nI M.ro)) (C := RM) (T := FM) (N := 19) hx hb hta iM hown hK hP 0 rfl rfl 4 (by decide) (hta _ m_496) (fun _ h9 => h9) rfl dM_check_9 ?_
      refine ni_ge (tgt := 143) hx hb dM_check_12 (by decide) (by omega) (by omega) (fun c_1 => ?_) (fun c_1 => ?_)
      · refine lv_iconst (v := nI 0) hx hb dM_check_143 (by decide) ?_
        exact W.iret (v := nI 0) hx hb hr (fun t ht hW => ⟨congrArg (fun z => Outcome.returned (some (.int z))) (by rw [← hq]; rfl), by rw [ht]; exact hP, hS.F ht⟩) hS.2.2 dM_check_144
      · exfalso; omega
    | succ n ih =>
      intro i ls hn hq hl
      refine lv_iload_n hx hb dM_check_7 rfl (lv_at hl 0 rfl) ?_
      refine lv_aload_n hx hb dM_check_8 rfl (lv_at hl 1 rfl) ?_
      refine va_get (D := (dC, dI)) (ci := 2) (v := .int (nI M.ro)) (C := RM) (T := FM) (N := 19) hx hb hta iM hown hK hP 0 rfl rfl 4 (by decide) (hta _ m_496) (fun _ h9 => h9) rfl dM_check_9 ?_
      refine ni_ge (tgt := 143) hx hb dM_check_12 (by decide) (by omega) (by omega) (fun c_2 => ?_) (fun c_2 => ?_)
      · exfalso; omega
      · refine lv_aload_n hx hb dM_check_15 rfl (lv_at hl 1 rfl) ?_
        refine va_get (D := (dC, dI)) (ci := 2) (v := .long M.dn) (C := RM) (T := FM) (N := 19) hx hb hta iM hown hK hP 0 rfl rfl 13 (by decide) (hta _ m_505) (fun _ h9 => h9) rfl dM_check_16 ?_
        refine lv_lneg hx hb dM_check_19 ?_
        refine lv_aload_n hx hb dM_check_20 rfl (lv_at hl 1 rfl) ?_
        refine va_get (D := (dC, dI)) (ci := 2) (v := .ref (mo 4)) (C := RM) (T := FM) (N := 19) hx hb hta iM hown hK hP 0 rfl rfl 7 (by decide) (hta _ m_499) (fun _ h9 => h9) rfl dM_check_21 ?_
        refine lv_iload_n hx hb dM_check_24 rfl (lv_at hl 0 rfl) ?_
        refine na_lald hx hb hK hP 4 3 rfl rfl (i := i) (by omega) (by decide) dM_check_25 ?_
        refine lv_lmul hx hb dM_check_26 ?_
        refine lv_lstore_n (lv' := [(2, .long ((-M.dn) * (M.ri i))), (1, .int (nI i)), (0, .ref (mo 0))]) hx hb dM_check_27 rfl hl (by decide) rfl (fun ls hl => ?_)
        refine lv_iconst (v := nI 0) hx hb dM_check_28 (by decide) ?_
        refine lv_istore (lv' := [(4, .int (nI 0)), (2, .long ((-M.dn) * (M.ri i))), (1, .int (nI i)), (0, .ref (mo 0))]) hx hb dM_check_29 hl (by decide) rfl (fun ls hl => ?_)
        have loop31 : ∀ (n2 : Nat) (j : Nat) (acc : Int64) (ls : Array Slot), (j + n2 = M.co) → (ckS M i j n2 acc = ckO M i) → lv_has ls 5 [(4, .int (nI j)), (2, .long acc), (1, .int (nI i)), (0, .ref (mo 0))] → W p l e (headSpec wM_check ({ frames := 1, cells := 0, slots := 0, locals := 21 })).room s m ([.ref (mo 0)] : List Value).toArray below meth c H locs 0 0 (MQ below (wQ (some (.int (nI (ckR M 0 M.ro)))) (dC, dI) vwCl (MW mo km (mTh M 0)) A) ([.ref (mo 0)] : List Value).toArray s 0 0 A) (F0 m 31 ls []) := by
          intro n2
          induction n2 with
          | zero =>
            intro j acc ls hn2 hq2 hl
            refine lv_iload hx hb dM_check_31 (lv_at hl 0 rfl) ?_
            refine lv_aload_n hx hb dM_check_33 rfl (lv_at hl 3 rfl) ?_
            refine va_get (D := (dC, dI)) (ci := 2) (v := .int (nI M.co)) (C := RM) (T := FM) (N := 19) hx hb hta iM hown hK hP 0 rfl rfl 2 (by decide) (hta _ m_494) (fun _ h9 => h9) rfl dM_check_34 ?_
            refine ni_ge (tgt := 68) hx hb dM_check_37 (by decide) (by omega) (by omega) (fun c_3 => ?_) (fun c_3 => ?_)
            · have hacc : acc = ckO M i := hq2
              refine lv_aload_n hx hb dM_check_68 rfl (lv_at hl 3 rfl) ?_
              refine va_get (D := (dC, dI)) (ci := 2) (v := .ref (mo 2)) (C := RM) (T := FM) (N := 19) hx hb hta iM hown hK hP 0 rfl rfl 5 (by decide) (hta _ m_497) (fun _ h9 => h9) rfl dM_check_69 ?_
              refine lv_iload_n hx hb dM_check_72 rfl (lv_at hl 2 rfl) ?_
              refine na_iald hx hb hK hP 2 1 rfl rfl (i := i) (by omega) (by decide) dM_check_73 ?_
              refine lv_if_ne (tgt := 91) hx hb dM_check_74 (by decide) (fun h1 => ?_) (fun h1 => ?_)
              · have h1 : ¬ M.ki i = 0 := h1
                refine lv_aload_n hx hb dM_check_91 rfl (lv_at hl 3 rfl) ?_
                refine va_get (D := (dC, dI)) (ci := 2) (v := .ref (mo 2)) (C := RM) (T := FM) (N := 19) hx hb hta iM hown hK hP 0 rfl rfl 5 (by decide) (hta _ m_497) (fun _ h9 => h9) rfl dM_check_92 ?_
                refine lv_iload_n hx hb dM_check_95 rfl (lv_at hl 2 rfl) ?_
                refine na_iald hx hb hK hP 2 1 rfl rfl (i := i) (by omega) (by decide) dM_check_96 ?_
                refine lv_iconst (v := 1) hx hb dM_check_97 (by decide) ?_
                refine lv_icmp_ne (tgt := 115) hx hb dM_check_98 (by decide) (fun h3 => ?_) (fun h3 => ?_)
                · have h3 : ¬ M.ki i = 1 := h3
                  refine lv_lload_n hx hb dM_check_115 rfl (lv_at hl 1 rfl) ?_
                  refine lv_lconst (v := 0) hx hb dM_check_116 (by decide) ?_
                  refine ll_ne (tgt := 125) hx hb dM_check_117 dM_check_118 (by decide) (fun h2 => ?_) (fun h2 => ?_)
                  · refine lv_iconst (v := 0) hx hb dM_check_125 (by decide) ?_
                    have eB : ckB M i = false := by rw [hacc] at h2; first | (simp [ckB, h1, h2]; done) | (simp [ckB, h1, h3, h2]; done)
                    refine lv_istore (lv' := [(4, .int 0), (2, .long acc), (1, .int (nI i)), (0, .ref (mo 0))]) hx hb dM_check_126 hl (by decide) rfl (fun ls hl => ?_)
                    refine lv_iload hx hb dM_check_128 (lv_at hl 0 rfl) ?_
                    refine lv_if_ne (tgt := 137) hx hb dM_check_130 (by decide) (fun c_4 => ?_) (fun c_4 => ?_)
                    · exact absurd c_4 (by decide)
                    · refine lv_iload_n hx hb dM_check_133 rfl (lv_at hl 2 rfl) ?_
                      refine lv_iconst (v := nI 1) hx hb dM_check_134 (by decide) ?_
                      refine lv_iadd hx hb dM_check_135 ?_
                      refine st_i (y := nI (i + 1)) (nI_add _ _) ?_
                      exact W.iret (v := nI (i + 1)) hx hb hr (fun t ht hW => ⟨congrArg (fun z => Outcome.returned (some (.int z))) (by rw [← hq, ckR, if_neg (by rw [eB]; decide)]), by rw [ht]; exact hP, hS.F ht⟩) hS.2.2 dM_check_136
                  · refine lv_iconst (v := 1) hx hb dM_check_121 (by decide) ?_
                    refine lv_goto (tgt := 126) hx hb dM_check_122 (by decide) ?_
                    have eB : ckB M i = true := by rw [hacc] at h2; first | (simp [ckB, h1, h2]; done) | (simp [ckB, h1, h3, h2]; done)
                    refine lv_istore (lv' := [(4, .int 1), (2, .long acc), (1, .int (nI i)), (0, .ref (mo 0))]) hx hb dM_check_126 hl (by decide) rfl (fun ls hl => ?_)
                    refine lv_iload hx hb dM_check_128 (lv_at hl 0 rfl) ?_
                    refine lv_if_ne (tgt := 137) hx hb dM_check_130 (by decide) (fun c_5 => ?_) (fun c_5 => ?_)
                    · refine lv_iinc (v := nI (i + 1)) (lv' := [(1, .int (nI (i + 1))), (4, .int 1), (2, .long acc), (0, .ref (mo 0))]) hx hb dM_check_137 hl (k := 2) rfl (nI_add i 1) (by decide) rfl (fun ls hl => ?_)
                      refine lv_goto (tgt := 7) hx hb dM_check_140 (by decide) ?_
                      exact ih (i + 1) ls (by omega) (by rw [← hq, ckR, if_pos eB]) (lv_sub hl [0, 3] rfl)
                    · exact absurd c_5 (by decide)
                · have h3 : M.ki i = 1 := h3
                  refine lv_lload_n hx hb dM_check_101 rfl (lv_at hl 1 rfl) ?_
                  refine lv_lconst (v := 0) hx hb dM_check_102 (by decide) ?_
                  refine ll_gt (tgt := 111) hx hb dM_check_103 dM_check_104 (by decide) (fun h2 => ?_) (fun h2 => ?_)
                  · refine lv_iconst (v := 0) hx hb dM_check_111 (by decide) ?_
                    refine lv_goto (tgt := 126) hx hb dM_check_112 (by decide) ?_
                    have eB : ckB M i = false := by rw [hacc] at h2; first | (simp [ckB, h1, h2]; done) | (simp [ckB, h1, h3, h2]; done)
                    refine lv_istore (lv' := [(4, .int 0), (2, .long acc), (1, .int (nI i)), (0, .ref (mo 0))]) hx hb dM_check_126 hl (by decide) rfl (fun ls hl => ?_)
                    refine lv_iload hx hb dM_check_128 (lv_at hl 0 rfl) ?_
                    refine lv_if_ne (tgt := 137) hx hb dM_check_130 (by decide) (fun c_6 => ?_) (fun c_6 => ?_)
                    · exact absurd c_6 (by decide)
                    · refine lv_iload_n hx hb dM_check_133 rfl (lv_at hl 2 rfl) ?_
                      refine lv_iconst (v := nI 1) hx hb dM_check_134 (by decide) ?_
                      refine lv_iadd hx hb dM_check_135 ?_
                      refine st_i (y := nI (i + 1)) (nI_add _ _) ?_
                      exact W.iret (v := nI (i + 1)) hx hb hr (fun t ht hW => ⟨congrArg (fun z => Outcome.returned (some (.int z))) (by rw [← hq, ckR, if_neg (by rw [eB]; decide)]), by rw [ht]; exact hP, hS.F ht⟩) hS.2.2 dM_check_136
                  · refine lv_iconst (v := 1) hx hb dM_check_107 (by decide) ?_
                    refine lv_goto (tgt := 126) hx hb dM_check_108 (by decide) ?_
                    have eB : ckB M i = true := by rw [hacc] at h2; first | (simp [ckB, h1, h2]; done) | (simp [ckB, h1, h3, h2]; done)
                    refine lv_istore (lv' := [(4, .int 1), (2, .long acc), (1, .int (nI i)), (0, .ref (mo 0))]) hx hb dM_check_126 hl (by decide) rfl (fun ls hl => ?_)
                    refine lv_iload hx hb dM_check_128 (lv_at hl 0 rfl) ?_
                    refine lv_if_ne (tgt := 137) hx hb dM_check_130 (by decide) (fun c_7 => ?_) (fun c_7 => ?_)
                    · refine lv_iinc (v := nI (i + 1)) (lv' := [(1, .int (nI (i + 1))), (4, .int 1), (2, .long acc), (0, .ref (mo 0))]) hx hb dM_check_137 hl (k := 2) rfl (nI_add i 1) (by decide) rfl (fun ls hl => ?_)
                      refine lv_goto (tgt := 7) hx hb dM_check_140 (by decide) ?_
                      exact ih (i + 1) ls (by omega) (by rw [← hq, ckR, if_pos eB]) (lv_sub hl [0, 3] rfl)
                    · exact absurd c_7 (by decide)
              · have h1 : M.ki i = 0 := h1
                refine lv_lload_n hx hb dM_check_77 rfl (lv_at hl 1 rfl) ?_
                refine lv_lconst (v := 0) hx hb dM_check_78 (by decide) ?_
                refine ll_lt (tgt := 87) hx hb dM_check_79 dM_check_80 (by decide) (fun h2 => ?_) (fun h2 => ?_)
                · refine lv_iconst (v := 0) hx hb dM_check_87 (by decide) ?_
                  refine lv_goto (tgt := 126) hx hb dM_check_88 (by decide) ?_
                  have eB : ckB M i = false := by rw [hacc] at h2; first | (simp [ckB, h1, h2]; done) | (simp [ckB, h1, h3, h2]; done)
                  refine lv_istore (lv' := [(4, .int 0), (2, .long acc), (1, .int (nI i)), (0, .ref (mo 0))]) hx hb dM_check_126 hl (by decide) rfl (fun ls hl => ?_)
                  refine lv_iload hx hb dM_check_128 (lv_at hl 0 rfl) ?_
                  refine lv_if_ne (tgt := 137) hx hb dM_check_130 (by decide) (fun c_8 => ?_) (fun c_8 => ?_)
                  · exact absurd c_8 (by decide)
                  · refine lv_iload_n hx hb dM_check_133 rfl (lv_at hl 2 rfl) ?_
                    refine lv_iconst (v := nI 1) hx hb dM_check_134 (by decide) ?_
                    refine lv_iadd hx hb dM_check_135 ?_
                    refine st_i (y := nI (i + 1)) (nI_add _ _) ?_
                    exact W.iret (v := nI (i + 1)) hx hb hr (fun t ht hW => ⟨congrArg (fun z => Outcome.returned (some (.int z))) (by rw [← hq, ckR, if_neg (by rw [eB]; decide)]), by rw [ht]; exact hP, hS.F ht⟩) hS.2.2 dM_check_136
                · refine lv_iconst (v := 1) hx hb dM_check_83 (by decide) ?_
                  refine lv_goto (tgt := 126) hx hb dM_check_84 (by decide) ?_
                  have eB : ckB M i = true := by rw [hacc] at h2; first | (simp [ckB, h1, h2]; done) | (simp [ckB, h1, h3, h2]; done)
                  refine lv_istore (lv' := [(4, .int 1), (2, .long acc), (1, .int (nI i)), (0, .ref (mo 0))]) hx hb dM_check_126 hl (by decide) rfl (fun ls hl => ?_)
                  refine lv_iload hx hb dM_check_128 (lv_at hl 0 rfl) ?_
                  refine lv_if_ne (tgt := 137) hx hb dM_check_130 (by decide) (fun c_9 => ?_) (fun c_9 => ?_)
                  · refine lv_iinc (v := nI (i + 1)) (lv' := [(1, .int (nI (i + 1))), (4, .int 1), (2, .long acc), (0, .ref (mo 0))]) hx hb dM_check_137 hl (k := 2) rfl (nI_add i 1) (by decide) rfl (fun ls hl => ?_)
                    refine lv_goto (tgt := 7) hx hb dM_check_140 (by decide) ?_
                    exact ih (i + 1) ls (by omega) (by rw [← hq, ckR, if_pos eB]) (lv_sub hl [0, 3] rfl)
                  · exact absurd c_9 (by decide)
            · exfalso; omega
          | succ n2 ih31 =>
            intro j acc ls hn2 hq2 hl
            refine lv_iload hx hb dM_check_31 (lv_at hl 0 rfl) ?_
            refine lv_aload_n hx hb dM_check_33 rfl (lv_at hl 3 rfl) ?_
            refine va_get (D := (dC, dI)) (ci := 2) (v := .int (nI M.co)) (C := RM) (T := FM) (N := 19) hx hb hta iM hown hK hP 0 rfl rfl 2 (by decide) (hta _ m_494) (fun _ h9 => h9) rfl dM_check_34 ?_
            refine ni_ge (tgt := 68) hx hb dM_check_37 (by decide) (by omega) (by omega) (fun c_10 => ?_) (fun c_10 => ?_)
            · exfalso; omega
            · refine lv_lload_n hx hb dM_check_40 rfl (lv_at hl 1 rfl) ?_
              refine lv_aload_n hx hb dM_check_41 rfl (lv_at hl 3 rfl) ?_
              refine va_get (D := (dC, dI)) (ci := 2) (v := .ref (mo 5)) (C := RM) (T := FM) (N := 19) hx hb hta iM hown hK hP 0 rfl rfl 8 (by decide) (hta _ m_500) (fun _ h9 => h9) rfl dM_check_42 ?_
              refine lv_bipush (v := nI 12) hx hb dM_check_45 (by decide) ?_
              refine lv_iload_n hx hb dM_check_47 rfl (lv_at hl 2 rfl) ?_
              refine lv_imul hx hb dM_check_48 ?_
              refine st_i (y := nI (12 * i)) (pk_mul _ _) ?_
              refine lv_iload hx hb dM_check_49 (lv_at hl 0 rfl) ?_
              refine lv_iadd hx hb dM_check_51 ?_
              refine st_i (y := nI ((12 * i) + j)) (nI_add _ _) ?_
              refine na_lald hx hb hK hP 5 4 rfl rfl (i := ((12 * i) + j)) (by omega) (by decide) dM_check_52 ?_
              refine lv_aload_n hx hb dM_check_53 rfl (lv_at hl 3 rfl) ?_
              refine lv_iload hx hb dM_check_54 (lv_at hl 0 rfl) ?_
              refine rd_call (va_runV (As := [.int (nI j)]) (rest := [.long (M.fa ((12 * i) + j)), .long acc]) ⟨hx, hb, hml, hown, hta⟩ (c_M_amount l dC dI mo km (mTh M 0) j (by first | omega | assumption) (by first | omega | assumption)) (cwV 1 hta (gV m_643 m_645 mp_50 m_4 m_646) rfl rfl rfl (by decide +kernel) ⟨Nat.le_of_ble_eq_true rfl, Nat.le_of_ble_eq_true rfl⟩) (rd_V xT_ok trivial hK hP (ci := 2) (q0 := 0) rfl rfl) rfl rfl hl.1 rfl (lv_room (Nat.le_of_ble_eq_true rfl)) dM_check_56 ⟨Nat.zero_le _, Nat.zero_le _⟩) ?_
              refine W.eq (g2 := F0 m 59 ls [.long (amR (mTh M 0) j), .long (M.fa ((12 * i) + j)), .long acc]) rfl ?_
              refine lv_lmul hx hb dM_check_59 ?_
              refine lv_ladd hx hb dM_check_60 ?_
              refine lv_lstore_n (lv' := [(2, .long (acc + ((M.fa ((12 * i) + j)) * (amR (mTh M 0) j)))), (4, .int (nI j)), (1, .int (nI i)), (0, .ref (mo 0))]) hx hb dM_check_61 rfl hl (by decide) rfl (fun ls hl => ?_)
              refine lv_iinc (v := nI (j + 1)) (lv' := [(4, .int (nI (j + 1))), (2, .long (acc + ((M.fa ((12 * i) + j)) * (amR (mTh M 0) j)))), (1, .int (nI i)), (0, .ref (mo 0))]) hx hb dM_check_62 hl (k := 1) rfl (nI_add j 1) (by decide) rfl (fun ls hl => ?_)
              refine lv_goto (tgt := 31) hx hb dM_check_65 (by decide) ?_
              exact ih31 (j + 1) (acc + ((M.fa ((12 * i) + j)) * (amR (mTh M 0) j))) ls (by omega) (by rw [← hq2]; rfl) (lv_sub hl [0, 1, 2, 3] rfl)
        exact loop31 M.co 0 ((-M.dn) * (M.ri i)) ls (by omega) rfl (lv_sub hl [0, 1, 2, 3] rfl)
  exact loop7 M.ro 0 ls (by omega) rfl (lv_sub hl [0, 1] rfl)
end
