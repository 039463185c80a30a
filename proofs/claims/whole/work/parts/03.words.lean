theorem mp_0 : Cond.selects "PlanBounds" ⟨"PlanBounds", "isKept", "(I)Z"⟩ ⟨"PlanBounds", "isKept", "(I)Z"⟩ ∈ AW := List.mem_filter.mpr ⟨List.mem_of_getElem? (i := 0) (by decide +kernel), by decide +kernel⟩
theorem mp_1 : Cond.selects "PlanBounds$Table" ⟨"PlanBounds$Table", "sumOfStarts", "([II)J"⟩ ⟨"PlanBounds$Table", "sumOfStarts", "([II)J"⟩ ∈ AW := List.mem_filter.mpr ⟨List.mem_of_getElem? (i := 1) (by decide +kernel), by decide +kernel⟩
theorem mp_2 : Cond.selects "PlanBounds$Table" ⟨"PlanBounds$Table", "startOf", "(I)J"⟩ ⟨"PlanBounds$Table", "startOf", "(I)J"⟩ ∈ AW := List.mem_filter.mpr ⟨List.mem_of_getElem? (i := 2) (by decide +kernel), by decide +kernel⟩
theorem mp_3 : Cond.selects "PlanBounds$Table" ⟨"PlanBounds$Table", "placeInside", "(I)I"⟩ ⟨"PlanBounds$Table", "placeInside", "(I)I"⟩ ∈ AW := List.mem_filter.mpr ⟨List.mem_of_getElem? (i := 3) (by decide +kernel), by decide +kernel⟩
theorem mp_4 : Cond.selects "PlanBounds$Table" ⟨"PlanBounds$Table", "cell", "(II)J"⟩ ⟨"PlanBounds$Table", "cell", "(II)J"⟩ ∈ AW := List.mem_filter.mpr ⟨List.mem_of_getElem? (i := 4) (by decide +kernel), by decide +kernel⟩
theorem mp_8 : Cond.selects "PlanBounds$Table" ⟨"PlanBounds$Table", "setCell", "(IIJ)V"⟩ ⟨"PlanBounds$Table", "setCell", "(IIJ)V"⟩ ∈ AW := List.mem_filter.mpr ⟨List.mem_of_getElem? (i := 8) (by decide +kernel), by decide +kernel⟩
theorem mp_14 : Cond.selects "PlanBounds$Table" ⟨"PlanBounds$Table", "copyStarts", "()V"⟩ ⟨"PlanBounds$Table", "copyStarts", "()V"⟩ ∈ AW := List.mem_filter.mpr ⟨List.mem_of_getElem? (i := 14) (by decide +kernel), by decide +kernel⟩
theorem mp_15 : Cond.selects "PlanBounds" ⟨"PlanBounds", "linesOf", "(I)I"⟩ ⟨"PlanBounds", "linesOf", "(I)I"⟩ ∈ AW := List.mem_filter.mpr ⟨List.mem_of_getElem? (i := 15) (by decide +kernel), by decide +kernel⟩
theorem mp_16 : Cond.selects "PlanBounds" ⟨"PlanBounds", "variableOf", "(II)I"⟩ ⟨"PlanBounds", "variableOf", "(II)I"⟩ ∈ AW := List.mem_filter.mpr ⟨List.mem_of_getElem? (i := 16) (by decide +kernel), by decide +kernel⟩
theorem mp_17 : Cond.selects "PlanBounds" ⟨"PlanBounds", "signOf", "(II)I"⟩ ⟨"PlanBounds", "signOf", "(II)I"⟩ ∈ AW := List.mem_filter.mpr ⟨List.mem_of_getElem? (i := 17) (by decide +kernel), by decide +kernel⟩
theorem mp_18 : Cond.selects "PlanBounds$Table" ⟨"PlanBounds$Table", "moveCopied", "(IJ)V"⟩ ⟨"PlanBounds$Table", "moveCopied", "(IJ)V"⟩ ∈ AW := List.mem_filter.mpr ⟨List.mem_of_getElem? (i := 18) (by decide +kernel), by decide +kernel⟩
theorem mp_19 : Cond.selects "PlanBounds$Table" ⟨"PlanBounds$Table", "placeOutside", "(I)I"⟩ ⟨"PlanBounds$Table", "placeOutside", "(I)I"⟩ ∈ AW := List.mem_filter.mpr ⟨List.mem_of_getElem? (i := 19) (by decide +kernel), by decide +kernel⟩
theorem mp_20 : Cond.selects "PlanBounds$Table" ⟨"PlanBounds$Table", "takeCopiedStarts", "()Z"⟩ ⟨"PlanBounds$Table", "takeCopiedStarts", "()Z"⟩ ∈ AW := List.mem_filter.mpr ⟨List.mem_of_getElem? (i := 20) (by decide +kernel), by decide +kernel⟩
theorem mp_22 : Cond.selects "PlanBounds" ⟨"PlanBounds", "bringRow", "(I)Z"⟩ ⟨"PlanBounds", "bringRow", "(I)Z"⟩ ∈ AW := List.mem_filter.mpr ⟨List.mem_of_getElem? (i := 22) (by decide +kernel), by decide +kernel⟩
theorem mp_23 : Cond.selects "PlanBounds$Table" ⟨"PlanBounds$Table", "tell", "([IIJ)V"⟩ ⟨"PlanBounds$Table", "tell", "([IIJ)V"⟩ ∈ AW := List.mem_filter.mpr ⟨List.mem_of_getElem? (i := 23) (by decide +kernel), by decide +kernel⟩
theorem mp_24 : Cond.selects "PlanBounds$Table" ⟨"PlanBounds$Table", "tellColumn", "(IJ)V"⟩ ⟨"PlanBounds$Table", "tellColumn", "(IJ)V"⟩ ∈ AW := List.mem_filter.mpr ⟨List.mem_of_getElem? (i := 24) (by decide +kernel), by decide +kernel⟩
theorem mp_25 : Cond.selects "PlanBounds$Table" ⟨"PlanBounds$Table", "toldFits", "()Z"⟩ ⟨"PlanBounds$Table", "toldFits", "()Z"⟩ ∈ AW := List.mem_filter.mpr ⟨List.mem_of_getElem? (i := 25) (by decide +kernel), by decide +kernel⟩
theorem mp_26 : Cond.selects "PlanBounds$Table" ⟨"PlanBounds$Table", "bringTold", "(I)V"⟩ ⟨"PlanBounds$Table", "bringTold", "(I)V"⟩ ∈ AW := List.mem_filter.mpr ⟨List.mem_of_getElem? (i := 26) (by decide +kernel), by decide +kernel⟩
theorem mp_28 : Cond.selects "PlanBounds$Table" ⟨"PlanBounds$Table", "leavingPlace", "()I"⟩ ⟨"PlanBounds$Table", "leavingPlace", "()I"⟩ ∈ AW := List.mem_filter.mpr ⟨List.mem_of_getElem? (i := 28) (by decide +kernel), by decide +kernel⟩
theorem mp_29 : Cond.selects "PlanBounds$Table" ⟨"PlanBounds$Table", "enteringPlace", "(I)I"⟩ ⟨"PlanBounds$Table", "enteringPlace", "(I)I"⟩ ∈ AW := List.mem_filter.mpr ⟨List.mem_of_getElem? (i := 29) (by decide +kernel), by decide +kernel⟩
theorem mp_30 : Cond.selects "PlanBounds$Table" ⟨"PlanBounds$Table", "entersBefore", "(III)Z"⟩ ⟨"PlanBounds$Table", "entersBefore", "(III)Z"⟩ ∈ AW := List.mem_filter.mpr ⟨List.mem_of_getElem? (i := 30) (by decide +kernel), by decide +kernel⟩
theorem mp_31 : Cond.selects "PlanBounds$Table" ⟨"PlanBounds$Table", "stepFits", "(II)Z"⟩ ⟨"PlanBounds$Table", "stepFits", "(II)Z"⟩ ∈ AW := List.mem_filter.mpr ⟨List.mem_of_getElem? (i := 31) (by decide +kernel), by decide +kernel⟩
theorem mp_32 : Cond.selects "PlanBounds$Table" ⟨"PlanBounds$Table", "otherFits", "(III)Z"⟩ ⟨"PlanBounds$Table", "otherFits", "(III)Z"⟩ ∈ AW := List.mem_filter.mpr ⟨List.mem_of_getElem? (i := 32) (by decide +kernel), by decide +kernel⟩
theorem mp_33 : Cond.selects "PlanBounds$Table" ⟨"PlanBounds$Table", "afterStep", "(JJJJ)J"⟩ ⟨"PlanBounds$Table", "afterStep", "(JJJJ)J"⟩ ∈ AW := List.mem_filter.mpr ⟨List.mem_of_getElem? (i := 33) (by decide +kernel), by decide +kernel⟩
theorem mp_34 : Cond.selects "PlanBounds$Table" ⟨"PlanBounds$Table", "change", "(II)V"⟩ ⟨"PlanBounds$Table", "change", "(II)V"⟩ ∈ AW := List.mem_filter.mpr ⟨List.mem_of_getElem? (i := 34) (by decide +kernel), by decide +kernel⟩
theorem mp_35 : Cond.selects "PlanBounds$Table" ⟨"PlanBounds$Table", "changeOther", "(III)V"⟩ ⟨"PlanBounds$Table", "changeOther", "(III)V"⟩ ∈ AW := List.mem_filter.mpr ⟨List.mem_of_getElem? (i := 35) (by decide +kernel), by decide +kernel⟩
theorem mp_36 : Cond.selects "PlanBounds$Table" ⟨"PlanBounds$Table", "changeEntered", "(II)V"⟩ ⟨"PlanBounds$Table", "changeEntered", "(II)V"⟩ ∈ AW := List.mem_filter.mpr ⟨List.mem_of_getElem? (i := 36) (by decide +kernel), by decide +kernel⟩
theorem mp_38 : Cond.selects "PlanBounds$Table" ⟨"PlanBounds$Table", "numberBy", "(II)J"⟩ ⟨"PlanBounds$Table", "numberBy", "(II)J"⟩ ∈ AW := List.mem_filter.mpr ⟨List.mem_of_getElem? (i := 38) (by decide +kernel), by decide +kernel⟩
theorem m_1 : (Jvm.Cond.initialized "PlanBounds") ∈ AW := List.mem_filter.mpr ⟨List.mem_of_getElem? (i := 54) (by decide +kernel), by decide +kernel⟩
theorem m_2 : (Jvm.Cond.initialized "PlanBounds$Table") ∈ AW := List.mem_filter.mpr ⟨List.mem_of_getElem? (i := 55) (by decide +kernel), by decide +kernel⟩
theorem m_3 : (Jvm.Cond.initialized "java/lang/Math") ∈ AW := List.mem_filter.mpr ⟨List.mem_of_getElem? (i := 56) (by decide +kernel), by decide +kernel⟩
theorem m_11 : (Jvm.Cond.initialized "java/util/Arrays") ∈ AW := List.mem_filter.mpr ⟨List.mem_of_getElem? (i := 64) (by decide +kernel), by decide +kernel⟩
theorem m_26 : (Jvm.Cond.fieldLink "PlanBounds$Table" (11 : Nat) "PlanBounds$Table" "cells" "[J") ∈ AW := List.mem_filter.mpr ⟨List.mem_of_getElem? (i := 79) (by decide +kernel), by decide +kernel⟩
theorem m_27 : (Jvm.Cond.fieldLink "PlanBounds$Table" (15 : Nat) "PlanBounds$Table" "inside" "[I") ∈ AW := List.mem_filter.mpr ⟨List.mem_of_getElem? (i := 80) (by decide +kernel), by decide +kernel⟩
theorem m_29 : (Jvm.Cond.fieldLink "PlanBounds$Table" (19 : Nat) "PlanBounds$Table" "outside" "[I") ∈ AW := List.mem_filter.mpr ⟨List.mem_of_getElem? (i := 82) (by decide +kernel), by decide +kernel⟩
theorem m_30 : (Jvm.Cond.fieldLink "PlanBounds$Table" (22 : Nat) "PlanBounds$Table" "told" "[J") ∈ AW := List.mem_filter.mpr ⟨List.mem_of_getElem? (i := 83) (by decide +kernel), by decide +kernel⟩
theorem m_31 : (Jvm.Cond.fieldLink "PlanBounds$Table" (25 : Nat) "PlanBounds$Table" "starts" "[J") ∈ AW := List.mem_filter.mpr ⟨List.mem_of_getElem? (i := 84) (by decide +kernel), by decide +kernel⟩
theorem m_32 : (Jvm.Cond.fieldLink "PlanBounds$Table" (28 : Nat) "PlanBounds$Table" "width" "I") ∈ AW := List.mem_filter.mpr ⟨List.mem_of_getElem? (i := 85) (by decide +kernel), by decide +kernel⟩
theorem m_34 : (Jvm.Cond.fieldLink "PlanBounds$Table" (32 : Nat) "PlanBounds$Table" "height" "I") ∈ AW := List.mem_filter.mpr ⟨List.mem_of_getElem? (i := 87) (by decide +kernel), by decide +kernel⟩
theorem m_36 : (Jvm.Cond.fieldLink "PlanBounds$Table" (35 : Nat) "PlanBounds$Table" "d" "J") ∈ AW := List.mem_filter.mpr ⟨List.mem_of_getElem? (i := 89) (by decide +kernel), by decide +kernel⟩
theorem m_38 : (Jvm.Cond.laysFinal "PlanBounds$Table" "PlanBounds$Table" "cells" "[J") ∈ AW := List.mem_filter.mpr ⟨List.mem_of_getElem? (i := 91) (by decide +kernel), by decide +kernel⟩
theorem m_40 : (Jvm.Cond.laysFinal "PlanBounds$Table" "PlanBounds$Table" "inside" "[I") ∈ AW := List.mem_filter.mpr ⟨List.mem_of_getElem? (i := 93) (by decide +kernel), by decide +kernel⟩
theorem m_42 : (Jvm.Cond.laysFinal "PlanBounds$Table" "PlanBounds$Table" "outside" "[I") ∈ AW := List.mem_filter.mpr ⟨List.mem_of_getElem? (i := 95) (by decide +kernel), by decide +kernel⟩
theorem m_44 : (Jvm.Cond.laysFinal "PlanBounds$Table" "PlanBounds$Table" "told" "[J") ∈ AW := List.mem_filter.mpr ⟨List.mem_of_getElem? (i := 97) (by decide +kernel), by decide +kernel⟩
theorem m_46 : (Jvm.Cond.laysFinal "PlanBounds$Table" "PlanBounds$Table" "starts" "[J") ∈ AW := List.mem_filter.mpr ⟨List.mem_of_getElem? (i := 99) (by decide +kernel), by decide +kernel⟩
theorem m_48 : (Jvm.Cond.lays "PlanBounds$Table" "PlanBounds$Table" "width" "I") ∈ AW := List.mem_filter.mpr ⟨List.mem_of_getElem? (i := 101) (by decide +kernel), by decide +kernel⟩
theorem m_50 : (Jvm.Cond.lays "PlanBounds$Table" "PlanBounds$Table" "height" "I") ∈ AW := List.mem_filter.mpr ⟨List.mem_of_getElem? (i := 103) (by decide +kernel), by decide +kernel⟩
theorem m_52 : (Jvm.Cond.lays "PlanBounds$Table" "PlanBounds$Table" "d" "J") ∈ AW := List.mem_filter.mpr ⟨List.mem_of_getElem? (i := 105) (by decide +kernel), by decide +kernel⟩
theorem m_64 : (Jvm.Cond.fieldLink "PlanBounds" (9 : Nat) "PlanBounds" "kinds" "[I") ∈ AW := List.mem_filter.mpr ⟨List.mem_of_getElem? (i := 117) (by decide +kernel), by decide +kernel⟩
theorem m_65 : (Jvm.Cond.fieldLink "PlanBounds" (13 : Nat) "PlanBounds" "weeksOfRows" "[I") ∈ AW := List.mem_filter.mpr ⟨List.mem_of_getElem? (i := 118) (by decide +kernel), by decide +kernel⟩
theorem m_66 : (Jvm.Cond.fieldLink "PlanBounds" (16 : Nat) "PlanBounds" "rights" "[J") ∈ AW := List.mem_filter.mpr ⟨List.mem_of_getElem? (i := 119) (by decide +kernel), by decide +kernel⟩
theorem m_67 : (Jvm.Cond.fieldLink "PlanBounds" (20 : Nat) "PlanBounds" "factors" "[I") ∈ AW := List.mem_filter.mpr ⟨List.mem_of_getElem? (i := 120) (by decide +kernel), by decide +kernel⟩
theorem m_68 : (Jvm.Cond.fieldLink "PlanBounds" (23 : Nat) "PlanBounds" "firstLines" "[I") ∈ AW := List.mem_filter.mpr ⟨List.mem_of_getElem? (i := 121) (by decide +kernel), by decide +kernel⟩
theorem m_69 : (Jvm.Cond.fieldLink "PlanBounds" (29 : Nat) "PlanBounds" "table" "LPlanBounds$Table;") ∈ AW := List.mem_filter.mpr ⟨List.mem_of_getElem? (i := 122) (by decide +kernel), by decide +kernel⟩
theorem m_70 : (Jvm.Cond.fieldLink "PlanBounds" (33 : Nat) "PlanBounds" "rows" "I") ∈ AW := List.mem_filter.mpr ⟨List.mem_of_getElem? (i := 123) (by decide +kernel), by decide +kernel⟩
theorem m_71 : (Jvm.Cond.fieldLink "PlanBounds" (37 : Nat) "PlanBounds" "rowsInTable" "I") ∈ AW := List.mem_filter.mpr ⟨List.mem_of_getElem? (i := 124) (by decide +kernel), by decide +kernel⟩
theorem m_72 : (Jvm.Cond.fieldLink "PlanBounds" (40 : Nat) "PlanBounds" "stepsDone" "I") ∈ AW := List.mem_filter.mpr ⟨List.mem_of_getElem? (i := 125) (by decide +kernel), by decide +kernel⟩
theorem m_75 : (Jvm.Cond.laysFinal "PlanBounds" "PlanBounds" "weeks" "I") ∈ AW := List.mem_filter.mpr ⟨List.mem_of_getElem? (i := 128) (by decide +kernel), by decide +kernel⟩
theorem m_77 : (Jvm.Cond.laysFinal "PlanBounds" "PlanBounds" "kinds" "[I") ∈ AW := List.mem_filter.mpr ⟨List.mem_of_getElem? (i := 130) (by decide +kernel), by decide +kernel⟩
theorem m_79 : (Jvm.Cond.laysFinal "PlanBounds" "PlanBounds" "weeksOfRows" "[I") ∈ AW := List.mem_filter.mpr ⟨List.mem_of_getElem? (i := 132) (by decide +kernel), by decide +kernel⟩
theorem m_81 : (Jvm.Cond.laysFinal "PlanBounds" "PlanBounds" "rights" "[J") ∈ AW := List.mem_filter.mpr ⟨List.mem_of_getElem? (i := 134) (by decide +kernel), by decide +kernel⟩
theorem m_83 : (Jvm.Cond.laysFinal "PlanBounds" "PlanBounds" "factors" "[I") ∈ AW := List.mem_filter.mpr ⟨List.mem_of_getElem? (i := 136) (by decide +kernel), by decide +kernel⟩
theorem m_85 : (Jvm.Cond.laysFinal "PlanBounds" "PlanBounds" "firstLines" "[I") ∈ AW := List.mem_filter.mpr ⟨List.mem_of_getElem? (i := 138) (by decide +kernel), by decide +kernel⟩
theorem m_87 : (Jvm.Cond.laysFinal "PlanBounds" "PlanBounds" "table" "LPlanBounds$Table;") ∈ AW := List.mem_filter.mpr ⟨List.mem_of_getElem? (i := 140) (by decide +kernel), by decide +kernel⟩
theorem m_89 : (Jvm.Cond.lays "PlanBounds" "PlanBounds" "rows" "I") ∈ AW := List.mem_filter.mpr ⟨List.mem_of_getElem? (i := 142) (by decide +kernel), by decide +kernel⟩
theorem m_91 : (Jvm.Cond.lays "PlanBounds" "PlanBounds" "rowsInTable" "I") ∈ AW := List.mem_filter.mpr ⟨List.mem_of_getElem? (i := 144) (by decide +kernel), by decide +kernel⟩
theorem m_93 : (Jvm.Cond.lays "PlanBounds" "PlanBounds" "stepsDone" "I") ∈ AW := List.mem_filter.mpr ⟨List.mem_of_getElem? (i := 146) (by decide +kernel), by decide +kernel⟩
theorem m_95 : (Jvm.Cond.lays "PlanBounds" "PlanBounds" "hasRun" "Z") ∈ AW := List.mem_filter.mpr ⟨List.mem_of_getElem? (i := 148) (by decide +kernel), by decide +kernel⟩
theorem m_97 : (Jvm.Cond.lays "PlanBounds" "PlanBounds" "latest" "I") ∈ AW := List.mem_filter.mpr ⟨List.mem_of_getElem? (i := 150) (by decide +kernel), by decide +kernel⟩
theorem m_104 : (Jvm.Cond.methodLink "PlanBounds" (168 : Nat) ({ cls := "PlanBounds", name := "isKept", desc := "(I)Z" } : Jvm.MethodName)) ∈ AW := List.mem_filter.mpr ⟨List.mem_of_getElem? (i := 157) (by decide +kernel), by decide +kernel⟩
theorem m_106 : (Jvm.Cond.instanceMethod ({ cls := "PlanBounds", name := "isKept", desc := "(I)Z" } : Jvm.MethodName)) ∈ AW := List.mem_filter.mpr ⟨List.mem_of_getElem? (i := 159) (by decide +kernel), by decide +kernel⟩
theorem m_107 : (Jvm.Cond.code ({ cls := "PlanBounds", name := "isKept", desc := "(I)Z" } : Jvm.MethodName) prog_1_method_23_code (4 : Nat) (Option.some Jvm.ClassFile.FieldType.boolean)) ∈ AW := List.mem_filter.mpr ⟨List.mem_of_getElem? (i := 160) (by decide +kernel), by decide +kernel⟩
theorem m_108 : (Jvm.Cond.methodLink "PlanBounds" (109 : Nat) ({ cls := "PlanBounds", name := "factorPlace", desc := "(II)I" } : Jvm.MethodName)) ∈ AW := List.mem_filter.mpr ⟨List.mem_of_getElem? (i := 161) (by decide +kernel), by decide +kernel⟩
theorem m_109 : (Jvm.Cond.static ({ cls := "PlanBounds", name := "factorPlace", desc := "(II)I" } : Jvm.MethodName)) ∈ AW := List.mem_filter.mpr ⟨List.mem_of_getElem? (i := 162) (by decide +kernel), by decide +kernel⟩
theorem m_110 : (Jvm.Cond.code ({ cls := "PlanBounds", name := "factorPlace", desc := "(II)I" } : Jvm.MethodName) prog_1_method_21_code (2 : Nat) (Option.some Jvm.ClassFile.FieldType.int)) ∈ AW := List.mem_filter.mpr ⟨List.mem_of_getElem? (i := 163) (by decide +kernel), by decide +kernel⟩
theorem m_113 : (Jvm.Cond.instanceMethod ({ cls := "PlanBounds$Table", name := "sumOfStarts", desc := "([II)J" } : Jvm.MethodName)) ∈ AW := List.mem_filter.mpr ⟨List.mem_of_getElem? (i := 166) (by decide +kernel), by decide +kernel⟩
theorem m_114 : (Jvm.Cond.code ({ cls := "PlanBounds$Table", name := "sumOfStarts", desc := "([II)J" } : Jvm.MethodName) prog_2_method_10_code (6 : Nat) (Option.some Jvm.ClassFile.FieldType.long)) ∈ AW := List.mem_filter.mpr ⟨List.mem_of_getElem? (i := 167) (by decide +kernel), by decide +kernel⟩
theorem m_115 : (Jvm.Cond.methodLink "PlanBounds$Table" (58 : Nat) ({ cls := "PlanBounds$Table", name := "startOf", desc := "(I)J" } : Jvm.MethodName)) ∈ AW := List.mem_filter.mpr ⟨List.mem_of_getElem? (i := 168) (by decide +kernel), by decide +kernel⟩
theorem m_117 : (Jvm.Cond.instanceMethod ({ cls := "PlanBounds$Table", name := "startOf", desc := "(I)J" } : Jvm.MethodName)) ∈ AW := List.mem_filter.mpr ⟨List.mem_of_getElem? (i := 170) (by decide +kernel), by decide +kernel⟩
theorem m_118 : (Jvm.Cond.code ({ cls := "PlanBounds$Table", name := "startOf", desc := "(I)J" } : Jvm.MethodName) prog_2_method_8_code (3 : Nat) (Option.some Jvm.ClassFile.FieldType.long)) ∈ AW := List.mem_filter.mpr ⟨List.mem_of_getElem? (i := 171) (by decide +kernel), by decide +kernel⟩
theorem m_119 : (Jvm.Cond.methodLink "PlanBounds$Table" (47 : Nat) ({ cls := "PlanBounds$Table", name := "placeInside", desc := "(I)I" } : Jvm.MethodName)) ∈ AW := List.mem_filter.mpr ⟨List.mem_of_getElem? (i := 172) (by decide +kernel), by decide +kernel⟩
theorem m_121 : (Jvm.Cond.instanceMethod ({ cls := "PlanBounds$Table", name := "placeInside", desc := "(I)I" } : Jvm.MethodName)) ∈ AW := List.mem_filter.mpr ⟨List.mem_of_getElem? (i := 174) (by decide +kernel), by decide +kernel⟩
theorem m_122 : (Jvm.Cond.code ({ cls := "PlanBounds$Table", name := "placeInside", desc := "(I)I" } : Jvm.MethodName) prog_2_method_6_code (3 : Nat) (Option.some Jvm.ClassFile.FieldType.int)) ∈ AW := List.mem_filter.mpr ⟨List.mem_of_getElem? (i := 175) (by decide +kernel), by decide +kernel⟩
theorem m_123 : (Jvm.Cond.methodLink "PlanBounds$Table" (51 : Nat) ({ cls := "PlanBounds$Table", name := "cell", desc := "(II)J" } : Jvm.MethodName)) ∈ AW := List.mem_filter.mpr ⟨List.mem_of_getElem? (i := 176) (by decide +kernel), by decide +kernel⟩
theorem m_125 : (Jvm.Cond.instanceMethod ({ cls := "PlanBounds$Table", name := "cell", desc := "(II)J" } : Jvm.MethodName)) ∈ AW := List.mem_filter.mpr ⟨List.mem_of_getElem? (i := 178) (by decide +kernel), by decide +kernel⟩
theorem m_126 : (Jvm.Cond.code ({ cls := "PlanBounds$Table", name := "cell", desc := "(II)J" } : Jvm.MethodName) prog_2_method_2_code (3 : Nat) (Option.some Jvm.ClassFile.FieldType.long)) ∈ AW := List.mem_filter.mpr ⟨List.mem_of_getElem? (i := 179) (by decide +kernel), by decide +kernel⟩
theorem m_240 : (Jvm.Cond.methodLink "PlanBounds$Table" (43 : Nat) ({ cls := "PlanBounds$Table", name := "setCell", desc := "(IIJ)V" } : Jvm.MethodName)) ∈ AW := List.mem_filter.mpr ⟨List.mem_of_getElem? (i := 293) (by decide +kernel), by decide +kernel⟩
theorem m_242 : (Jvm.Cond.instanceMethod ({ cls := "PlanBounds$Table", name := "setCell", desc := "(IIJ)V" } : Jvm.MethodName)) ∈ AW := List.mem_filter.mpr ⟨List.mem_of_getElem? (i := 295) (by decide +kernel), by decide +kernel⟩
theorem m_243 : (Jvm.Cond.code ({ cls := "PlanBounds$Table", name := "setCell", desc := "(IIJ)V" } : Jvm.MethodName) prog_2_method_3_code (5 : Nat) (Option.none : Option Jvm.ClassFile.FieldType)) ∈ AW := List.mem_filter.mpr ⟨List.mem_of_getElem? (i := 296) (by decide +kernel), by decide +kernel⟩
theorem m_324 : (Jvm.Cond.instanceMethod ({ cls := "PlanBounds$Table", name := "copyStarts", desc := "()V" } : Jvm.MethodName)) ∈ AW := List.mem_filter.mpr ⟨List.mem_of_getElem? (i := 377) (by decide +kernel), by decide +kernel⟩
theorem m_325 : (Jvm.Cond.code ({ cls := "PlanBounds$Table", name := "copyStarts", desc := "()V" } : Jvm.MethodName) prog_2_method_24_code (2 : Nat) (Option.none : Option Jvm.ClassFile.FieldType)) ∈ AW := List.mem_filter.mpr ⟨List.mem_of_getElem? (i := 378) (by decide +kernel), by decide +kernel⟩
theorem m_326 : (Jvm.Cond.methodLink "PlanBounds" (199 : Nat) ({ cls := "PlanBounds", name := "linesOf", desc := "(I)I" } : Jvm.MethodName)) ∈ AW := List.mem_filter.mpr ⟨List.mem_of_getElem? (i := 379) (by decide +kernel), by decide +kernel⟩
theorem m_328 : (Jvm.Cond.instanceMethod ({ cls := "PlanBounds", name := "linesOf", desc := "(I)I" } : Jvm.MethodName)) ∈ AW := List.mem_filter.mpr ⟨List.mem_of_getElem? (i := 381) (by decide +kernel), by decide +kernel⟩
theorem m_329 : (Jvm.Cond.code ({ cls := "PlanBounds", name := "linesOf", desc := "(I)I" } : Jvm.MethodName) prog_1_method_24_code (2 : Nat) (Option.some Jvm.ClassFile.FieldType.int)) ∈ AW := List.mem_filter.mpr ⟨List.mem_of_getElem? (i := 382) (by decide +kernel), by decide +kernel⟩
theorem m_330 : (Jvm.Cond.methodLink "PlanBounds" (153 : Nat) ({ cls := "PlanBounds", name := "variableOf", desc := "(II)I" } : Jvm.MethodName)) ∈ AW := List.mem_filter.mpr ⟨List.mem_of_getElem? (i := 383) (by decide +kernel), by decide +kernel⟩
theorem m_332 : (Jvm.Cond.instanceMethod ({ cls := "PlanBounds", name := "variableOf", desc := "(II)I" } : Jvm.MethodName)) ∈ AW := List.mem_filter.mpr ⟨List.mem_of_getElem? (i := 385) (by decide +kernel), by decide +kernel⟩
theorem m_333 : (Jvm.Cond.code ({ cls := "PlanBounds", name := "variableOf", desc := "(II)I" } : Jvm.MethodName) prog_1_method_27_code (3 : Nat) (Option.some Jvm.ClassFile.FieldType.int)) ∈ AW := List.mem_filter.mpr ⟨List.mem_of_getElem? (i := 386) (by decide +kernel), by decide +kernel⟩
theorem m_334 : (Jvm.Cond.methodLink "PlanBounds" (150 : Nat) ({ cls := "PlanBounds", name := "signOf", desc := "(II)I" } : Jvm.MethodName)) ∈ AW := List.mem_filter.mpr ⟨List.mem_of_getElem? (i := 387) (by decide +kernel), by decide +kernel⟩
theorem m_336 : (Jvm.Cond.instanceMethod ({ cls := "PlanBounds", name := "signOf", desc := "(II)I" } : Jvm.MethodName)) ∈ AW := List.mem_filter.mpr ⟨List.mem_of_getElem? (i := 389) (by decide +kernel), by decide +kernel⟩
theorem m_337 : (Jvm.Cond.code ({ cls := "PlanBounds", name := "signOf", desc := "(II)I" } : Jvm.MethodName) prog_1_method_26_code (3 : Nat) (Option.some Jvm.ClassFile.FieldType.int)) ∈ AW := List.mem_filter.mpr ⟨List.mem_of_getElem? (i := 390) (by decide +kernel), by decide +kernel⟩
theorem m_340 : (Jvm.Cond.instanceMethod ({ cls := "PlanBounds$Table", name := "moveCopied", desc := "(IJ)V" } : Jvm.MethodName)) ∈ AW := List.mem_filter.mpr ⟨List.mem_of_getElem? (i := 393) (by decide +kernel), by decide +kernel⟩
theorem m_341 : (Jvm.Cond.code ({ cls := "PlanBounds$Table", name := "moveCopied", desc := "(IJ)V" } : Jvm.MethodName) prog_2_method_25_code (7 : Nat) (Option.none : Option Jvm.ClassFile.FieldType)) ∈ AW := List.mem_filter.mpr ⟨List.mem_of_getElem? (i := 394) (by decide +kernel), by decide +kernel⟩
theorem m_342 : (Jvm.Cond.methodLink "PlanBounds$Table" (55 : Nat) ({ cls := "PlanBounds$Table", name := "placeOutside", desc := "(I)I" } : Jvm.MethodName)) ∈ AW := List.mem_filter.mpr ⟨List.mem_of_getElem? (i := 395) (by decide +kernel), by decide +kernel⟩
theorem m_344 : (Jvm.Cond.instanceMethod ({ cls := "PlanBounds$Table", name := "placeOutside", desc := "(I)I" } : Jvm.MethodName)) ∈ AW := List.mem_filter.mpr ⟨List.mem_of_getElem? (i := 397) (by decide +kernel), by decide +kernel⟩
theorem m_345 : (Jvm.Cond.code ({ cls := "PlanBounds$Table", name := "placeOutside", desc := "(I)I" } : Jvm.MethodName) prog_2_method_7_code (3 : Nat) (Option.some Jvm.ClassFile.FieldType.int)) ∈ AW := List.mem_filter.mpr ⟨List.mem_of_getElem? (i := 398) (by decide +kernel), by decide +kernel⟩
theorem m_348 : (Jvm.Cond.instanceMethod ({ cls := "PlanBounds$Table", name := "takeCopiedStarts", desc := "()Z" } : Jvm.MethodName)) ∈ AW := List.mem_filter.mpr ⟨List.mem_of_getElem? (i := 401) (by decide +kernel), by decide +kernel⟩
theorem m_349 : (Jvm.Cond.code ({ cls := "PlanBounds$Table", name := "takeCopiedStarts", desc := "()Z" } : Jvm.MethodName) prog_2_method_26_code (2 : Nat) (Option.some Jvm.ClassFile.FieldType.boolean)) ∈ AW := List.mem_filter.mpr ⟨List.mem_of_getElem? (i := 402) (by decide +kernel), by decide +kernel⟩
theorem m_350 : (Jvm.Cond.methodLink "PlanBounds$Table" (72 : Nat) ({ cls := "PlanBounds$Table", name := "fits", desc := "(J)Z" } : Jvm.MethodName)) ∈ AW := List.mem_filter.mpr ⟨List.mem_of_getElem? (i := 403) (by decide +kernel), by decide +kernel⟩
theorem m_351 : (Jvm.Cond.static ({ cls := "PlanBounds$Table", name := "fits", desc := "(J)Z" } : Jvm.MethodName)) ∈ AW := List.mem_filter.mpr ⟨List.mem_of_getElem? (i := 404) (by decide +kernel), by decide +kernel⟩
theorem m_352 : (Jvm.Cond.code ({ cls := "PlanBounds$Table", name := "fits", desc := "(J)Z" } : Jvm.MethodName) prog_2_method_4_code (2 : Nat) (Option.some Jvm.ClassFile.FieldType.boolean)) ∈ AW := List.mem_filter.mpr ⟨List.mem_of_getElem? (i := 405) (by decide +kernel), by decide +kernel⟩
theorem m_353 : (Jvm.Cond.constantLong "PlanBounds$Table" (39 : Nat) (-1000000000 : Int64)) ∈ AW := List.mem_filter.mpr ⟨List.mem_of_getElem? (i := 406) (by decide +kernel), by decide +kernel⟩
theorem m_354 : (Jvm.Cond.constantLong "PlanBounds$Table" (41 : Nat) (1000000000 : Int64)) ∈ AW := List.mem_filter.mpr ⟨List.mem_of_getElem? (i := 407) (by decide +kernel), by decide +kernel⟩
theorem m_367 : (Jvm.Cond.methodLink "PlanBounds" (202 : Nat) ({ cls := "PlanBounds", name := "bringRow", desc := "(I)Z" } : Jvm.MethodName)) ∈ AW := List.mem_filter.mpr ⟨List.mem_of_getElem? (i := 420) (by decide +kernel), by decide +kernel⟩
theorem m_369 : (Jvm.Cond.instanceMethod ({ cls := "PlanBounds", name := "bringRow", desc := "(I)Z" } : Jvm.MethodName)) ∈ AW := List.mem_filter.mpr ⟨List.mem_of_getElem? (i := 422) (by decide +kernel), by decide +kernel⟩
theorem m_370 : (Jvm.Cond.code ({ cls := "PlanBounds", name := "bringRow", desc := "(I)Z" } : Jvm.MethodName) prog_1_method_29_code (3 : Nat) (Option.some Jvm.ClassFile.FieldType.boolean)) ∈ AW := List.mem_filter.mpr ⟨List.mem_of_getElem? (i := 423) (by decide +kernel), by decide +kernel⟩
theorem m_373 : (Jvm.Cond.instanceMethod ({ cls := "PlanBounds$Table", name := "tell", desc := "([IIJ)V" } : Jvm.MethodName)) ∈ AW := List.mem_filter.mpr ⟨List.mem_of_getElem? (i := 426) (by decide +kernel), by decide +kernel⟩
theorem m_374 : (Jvm.Cond.code ({ cls := "PlanBounds$Table", name := "tell", desc := "([IIJ)V" } : Jvm.MethodName) prog_2_method_11_code (6 : Nat) (Option.none : Option Jvm.ClassFile.FieldType)) ∈ AW := List.mem_filter.mpr ⟨List.mem_of_getElem? (i := 427) (by decide +kernel), by decide +kernel⟩
theorem m_375 : (Jvm.Cond.methodLink "PlanBounds$Table" (62 : Nat) ({ cls := "java/util/Arrays", name := "fill", desc := "([JJ)V" } : Jvm.MethodName)) ∈ AW := List.mem_filter.mpr ⟨List.mem_of_getElem? (i := 428) (by decide +kernel), by decide +kernel⟩
theorem m_376 : (Jvm.Cond.static ({ cls := "java/util/Arrays", name := "fill", desc := "([JJ)V" } : Jvm.MethodName)) ∈ AW := List.mem_filter.mpr ⟨List.mem_of_getElem? (i := 429) (by decide +kernel), by decide +kernel⟩
theorem m_377 : (Jvm.Cond.code ({ cls := "java/util/Arrays", name := "fill", desc := "([JJ)V" } : Jvm.MethodName) prog_13_method_101_code (5 : Nat) (Option.none : Option Jvm.ClassFile.FieldType)) ∈ AW := List.mem_filter.mpr ⟨List.mem_of_getElem? (i := 430) (by decide +kernel), by decide +kernel⟩
theorem m_378 : (Jvm.Cond.methodLink "PlanBounds$Table" (68 : Nat) ({ cls := "PlanBounds$Table", name := "tellColumn", desc := "(IJ)V" } : Jvm.MethodName)) ∈ AW := List.mem_filter.mpr ⟨List.mem_of_getElem? (i := 431) (by decide +kernel), by decide +kernel⟩
theorem m_380 : (Jvm.Cond.instanceMethod ({ cls := "PlanBounds$Table", name := "tellColumn", desc := "(IJ)V" } : Jvm.MethodName)) ∈ AW := List.mem_filter.mpr ⟨List.mem_of_getElem? (i := 433) (by decide +kernel), by decide +kernel⟩
theorem m_381 : (Jvm.Cond.code ({ cls := "PlanBounds$Table", name := "tellColumn", desc := "(IJ)V" } : Jvm.MethodName) prog_2_method_12_code (7 : Nat) (Option.none : Option Jvm.ClassFile.FieldType)) ∈ AW := List.mem_filter.mpr ⟨List.mem_of_getElem? (i := 434) (by decide +kernel), by decide +kernel⟩
theorem m_384 : (Jvm.Cond.instanceMethod ({ cls := "PlanBounds$Table", name := "toldFits", desc := "()Z" } : Jvm.MethodName)) ∈ AW := List.mem_filter.mpr ⟨List.mem_of_getElem? (i := 437) (by decide +kernel), by decide +kernel⟩
theorem m_385 : (Jvm.Cond.code ({ cls := "PlanBounds$Table", name := "toldFits", desc := "()Z" } : Jvm.MethodName) prog_2_method_13_code (2 : Nat) (Option.some Jvm.ClassFile.FieldType.boolean)) ∈ AW := List.mem_filter.mpr ⟨List.mem_of_getElem? (i := 438) (by decide +kernel), by decide +kernel⟩
theorem m_388 : (Jvm.Cond.instanceMethod ({ cls := "PlanBounds$Table", name := "bringTold", desc := "(I)V" } : Jvm.MethodName)) ∈ AW := List.mem_filter.mpr ⟨List.mem_of_getElem? (i := 441) (by decide +kernel), by decide +kernel⟩
theorem m_389 : (Jvm.Cond.code ({ cls := "PlanBounds$Table", name := "bringTold", desc := "(I)V" } : Jvm.MethodName) prog_2_method_14_code (4 : Nat) (Option.none : Option Jvm.ClassFile.FieldType)) ∈ AW := List.mem_filter.mpr ⟨List.mem_of_getElem? (i := 442) (by decide +kernel), by decide +kernel⟩
theorem m_396 : (Jvm.Cond.instanceMethod ({ cls := "PlanBounds$Table", name := "leavingPlace", desc := "()I" } : Jvm.MethodName)) ∈ AW := List.mem_filter.mpr ⟨List.mem_of_getElem? (i := 449) (by decide +kernel), by decide +kernel⟩
theorem m_397 : (Jvm.Cond.code ({ cls := "PlanBounds$Table", name := "leavingPlace", desc := "()I" } : Jvm.MethodName) prog_2_method_15_code (3 : Nat) (Option.some Jvm.ClassFile.FieldType.int)) ∈ AW := List.mem_filter.mpr ⟨List.mem_of_getElem? (i := 450) (by decide +kernel), by decide +kernel⟩
theorem m_400 : (Jvm.Cond.instanceMethod ({ cls := "PlanBounds$Table", name := "enteringPlace", desc := "(I)I" } : Jvm.MethodName)) ∈ AW := List.mem_filter.mpr ⟨List.mem_of_getElem? (i := 453) (by decide +kernel), by decide +kernel⟩
theorem m_401 : (Jvm.Cond.code ({ cls := "PlanBounds$Table", name := "enteringPlace", desc := "(I)I" } : Jvm.MethodName) prog_2_method_16_code (4 : Nat) (Option.some Jvm.ClassFile.FieldType.int)) ∈ AW := List.mem_filter.mpr ⟨List.mem_of_getElem? (i := 454) (by decide +kernel), by decide +kernel⟩
theorem m_402 : (Jvm.Cond.methodLink "PlanBounds$Table" (76 : Nat) ({ cls := "PlanBounds$Table", name := "entersBefore", desc := "(III)Z" } : Jvm.MethodName)) ∈ AW := List.mem_filter.mpr ⟨List.mem_of_getElem? (i := 455) (by decide +kernel), by decide +kernel⟩
theorem m_404 : (Jvm.Cond.instanceMethod ({ cls := "PlanBounds$Table", name := "entersBefore", desc := "(III)Z" } : Jvm.MethodName)) ∈ AW := List.mem_filter.mpr ⟨List.mem_of_getElem? (i := 457) (by decide +kernel), by decide +kernel⟩
theorem m_405 : (Jvm.Cond.code ({ cls := "PlanBounds$Table", name := "entersBefore", desc := "(III)Z" } : Jvm.MethodName) prog_2_method_17_code (8 : Nat) (Option.some Jvm.ClassFile.FieldType.boolean)) ∈ AW := List.mem_filter.mpr ⟨List.mem_of_getElem? (i := 458) (by decide +kernel), by decide +kernel⟩
theorem m_408 : (Jvm.Cond.instanceMethod ({ cls := "PlanBounds$Table", name := "stepFits", desc := "(II)Z" } : Jvm.MethodName)) ∈ AW := List.mem_filter.mpr ⟨List.mem_of_getElem? (i := 461) (by decide +kernel), by decide +kernel⟩
theorem m_409 : (Jvm.Cond.code ({ cls := "PlanBounds$Table", name := "stepFits", desc := "(II)Z" } : Jvm.MethodName) prog_2_method_19_code (4 : Nat) (Option.some Jvm.ClassFile.FieldType.boolean)) ∈ AW := List.mem_filter.mpr ⟨List.mem_of_getElem? (i := 462) (by decide +kernel), by decide +kernel⟩
theorem m_410 : (Jvm.Cond.methodLink "PlanBounds$Table" (80 : Nat) ({ cls := "PlanBounds$Table", name := "otherFits", desc := "(III)Z" } : Jvm.MethodName)) ∈ AW := List.mem_filter.mpr ⟨List.mem_of_getElem? (i := 463) (by decide +kernel), by decide +kernel⟩
theorem m_412 : (Jvm.Cond.instanceMethod ({ cls := "PlanBounds$Table", name := "otherFits", desc := "(III)Z" } : Jvm.MethodName)) ∈ AW := List.mem_filter.mpr ⟨List.mem_of_getElem? (i := 465) (by decide +kernel), by decide +kernel⟩
theorem m_413 : (Jvm.Cond.code ({ cls := "PlanBounds$Table", name := "otherFits", desc := "(III)Z" } : Jvm.MethodName) prog_2_method_20_code (9 : Nat) (Option.some Jvm.ClassFile.FieldType.boolean)) ∈ AW := List.mem_filter.mpr ⟨List.mem_of_getElem? (i := 466) (by decide +kernel), by decide +kernel⟩
theorem m_414 : (Jvm.Cond.methodLink "PlanBounds$Table" (83 : Nat) ({ cls := "PlanBounds$Table", name := "afterStep", desc := "(JJJJ)J" } : Jvm.MethodName)) ∈ AW := List.mem_filter.mpr ⟨List.mem_of_getElem? (i := 467) (by decide +kernel), by decide +kernel⟩
theorem m_416 : (Jvm.Cond.instanceMethod ({ cls := "PlanBounds$Table", name := "afterStep", desc := "(JJJJ)J" } : Jvm.MethodName)) ∈ AW := List.mem_filter.mpr ⟨List.mem_of_getElem? (i := 469) (by decide +kernel), by decide +kernel⟩
theorem m_417 : (Jvm.Cond.code ({ cls := "PlanBounds$Table", name := "afterStep", desc := "(JJJJ)J" } : Jvm.MethodName) prog_2_method_18_code (9 : Nat) (Option.some Jvm.ClassFile.FieldType.long)) ∈ AW := List.mem_filter.mpr ⟨List.mem_of_getElem? (i := 470) (by decide +kernel), by decide +kernel⟩
theorem m_420 : (Jvm.Cond.instanceMethod ({ cls := "PlanBounds$Table", name := "change", desc := "(II)V" } : Jvm.MethodName)) ∈ AW := List.mem_filter.mpr ⟨List.mem_of_getElem? (i := 473) (by decide +kernel), by decide +kernel⟩
theorem m_421 : (Jvm.Cond.code ({ cls := "PlanBounds$Table", name := "change", desc := "(II)V" } : Jvm.MethodName) prog_2_method_21_code (6 : Nat) (Option.none : Option Jvm.ClassFile.FieldType)) ∈ AW := List.mem_filter.mpr ⟨List.mem_of_getElem? (i := 474) (by decide +kernel), by decide +kernel⟩
theorem m_422 : (Jvm.Cond.methodLink "PlanBounds$Table" (87 : Nat) ({ cls := "PlanBounds$Table", name := "changeOther", desc := "(III)V" } : Jvm.MethodName)) ∈ AW := List.mem_filter.mpr ⟨List.mem_of_getElem? (i := 475) (by decide +kernel), by decide +kernel⟩
theorem m_424 : (Jvm.Cond.instanceMethod ({ cls := "PlanBounds$Table", name := "changeOther", desc := "(III)V" } : Jvm.MethodName)) ∈ AW := List.mem_filter.mpr ⟨List.mem_of_getElem? (i := 477) (by decide +kernel), by decide +kernel⟩
theorem m_425 : (Jvm.Cond.code ({ cls := "PlanBounds$Table", name := "changeOther", desc := "(III)V" } : Jvm.MethodName) prog_2_method_22_code (9 : Nat) (Option.none : Option Jvm.ClassFile.FieldType)) ∈ AW := List.mem_filter.mpr ⟨List.mem_of_getElem? (i := 478) (by decide +kernel), by decide +kernel⟩
theorem m_426 : (Jvm.Cond.methodLink "PlanBounds$Table" (91 : Nat) ({ cls := "PlanBounds$Table", name := "changeEntered", desc := "(II)V" } : Jvm.MethodName)) ∈ AW := List.mem_filter.mpr ⟨List.mem_of_getElem? (i := 479) (by decide +kernel), by decide +kernel⟩
theorem m_428 : (Jvm.Cond.instanceMethod ({ cls := "PlanBounds$Table", name := "changeEntered", desc := "(II)V" } : Jvm.MethodName)) ∈ AW := List.mem_filter.mpr ⟨List.mem_of_getElem? (i := 481) (by decide +kernel), by decide +kernel⟩
theorem m_429 : (Jvm.Cond.code ({ cls := "PlanBounds$Table", name := "changeEntered", desc := "(II)V" } : Jvm.MethodName) prog_2_method_23_code (4 : Nat) (Option.none : Option Jvm.ClassFile.FieldType)) ∈ AW := List.mem_filter.mpr ⟨List.mem_of_getElem? (i := 482) (by decide +kernel), by decide +kernel⟩
theorem m_445 : (Jvm.Cond.methodLink "PlanBounds" (239 : Nat) ({ cls := "java/lang/Math", name := "abs", desc := "(J)J" } : Jvm.MethodName)) ∈ AW := List.mem_filter.mpr ⟨List.mem_of_getElem? (i := 498) (by decide +kernel), by decide +kernel⟩
theorem m_446 : (Jvm.Cond.static ({ cls := "java/lang/Math", name := "abs", desc := "(J)J" } : Jvm.MethodName)) ∈ AW := List.mem_filter.mpr ⟨List.mem_of_getElem? (i := 499) (by decide +kernel), by decide +kernel⟩
theorem m_447 : (Jvm.Cond.code ({ cls := "java/lang/Math", name := "abs", desc := "(J)J" } : Jvm.MethodName) prog_9_method_61_code (2 : Nat) (Option.some Jvm.ClassFile.FieldType.long)) ∈ AW := List.mem_filter.mpr ⟨List.mem_of_getElem? (i := 500) (by decide +kernel), by decide +kernel⟩
theorem m_448 : (Jvm.Cond.methodLink "PlanBounds" (243 : Nat) ({ cls := "PlanBounds", name := "greatestCommon", desc := "(JJ)J" } : Jvm.MethodName)) ∈ AW := List.mem_filter.mpr ⟨List.mem_of_getElem? (i := 501) (by decide +kernel), by decide +kernel⟩
theorem m_449 : (Jvm.Cond.static ({ cls := "PlanBounds", name := "greatestCommon", desc := "(JJ)J" } : Jvm.MethodName)) ∈ AW := List.mem_filter.mpr ⟨List.mem_of_getElem? (i := 502) (by decide +kernel), by decide +kernel⟩
theorem m_450 : (Jvm.Cond.code ({ cls := "PlanBounds", name := "greatestCommon", desc := "(JJ)J" } : Jvm.MethodName) prog_1_method_34_code (7 : Nat) (Option.some Jvm.ClassFile.FieldType.long)) ∈ AW := List.mem_filter.mpr ⟨List.mem_of_getElem? (i := 503) (by decide +kernel), by decide +kernel⟩
theorem m_472 : (Jvm.Cond.instanceMethod ({ cls := "PlanBounds$Table", name := "numberBy", desc := "(II)J" } : Jvm.MethodName)) ∈ AW := List.mem_filter.mpr ⟨List.mem_of_getElem? (i := 525) (by decide +kernel), by decide +kernel⟩
theorem m_473 : (Jvm.Cond.code ({ cls := "PlanBounds$Table", name := "numberBy", desc := "(II)J" } : Jvm.MethodName) prog_2_method_9_code (4 : Nat) (Option.some Jvm.ClassFile.FieldType.long)) ∈ AW := List.mem_filter.mpr ⟨List.mem_of_getElem? (i := 526) (by decide +kernel), by decide +kernel⟩
theorem m_511 : (Jvm.Cond.lays "PlanBoundsModel" "PlanBoundsModel" "thrown" "I") ∈ AW := List.mem_filter.mpr ⟨List.mem_of_getElem? (i := 564) (by decide +kernel), by decide +kernel⟩
theorem m_513 : (Jvm.Cond.laysFinal "PlanBoundsModel" "PlanBoundsModel" "weeks" "I") ∈ AW := List.mem_filter.mpr ⟨List.mem_of_getElem? (i := 566) (by decide +kernel), by decide +kernel⟩
theorem m_515 : (Jvm.Cond.lays "PlanBoundsModel" "PlanBoundsModel" "columns" "I") ∈ AW := List.mem_filter.mpr ⟨List.mem_of_getElem? (i := 568) (by decide +kernel), by decide +kernel⟩
theorem m_517 : (Jvm.Cond.laysFinal "PlanBoundsModel" "PlanBoundsModel" "costs" "[J") ∈ AW := List.mem_filter.mpr ⟨List.mem_of_getElem? (i := 570) (by decide +kernel), by decide +kernel⟩
theorem m_519 : (Jvm.Cond.lays "PlanBoundsModel" "PlanBoundsModel" "rows" "I") ∈ AW := List.mem_filter.mpr ⟨List.mem_of_getElem? (i := 572) (by decide +kernel), by decide +kernel⟩
theorem m_521 : (Jvm.Cond.laysFinal "PlanBoundsModel" "PlanBoundsModel" "kinds" "[I") ∈ AW := List.mem_filter.mpr ⟨List.mem_of_getElem? (i := 574) (by decide +kernel), by decide +kernel⟩
theorem m_523 : (Jvm.Cond.laysFinal "PlanBoundsModel" "PlanBoundsModel" "weekOf" "[I") ∈ AW := List.mem_filter.mpr ⟨List.mem_of_getElem? (i := 576) (by decide +kernel), by decide +kernel⟩
theorem m_525 : (Jvm.Cond.laysFinal "PlanBoundsModel" "PlanBoundsModel" "rights" "[J") ∈ AW := List.mem_filter.mpr ⟨List.mem_of_getElem? (i := 578) (by decide +kernel), by decide +kernel⟩
theorem m_527 : (Jvm.Cond.laysFinal "PlanBoundsModel" "PlanBoundsModel" "factors" "[J") ∈ AW := List.mem_filter.mpr ⟨List.mem_of_getElem? (i := 580) (by decide +kernel), by decide +kernel⟩
theorem m_529 : (Jvm.Cond.laysFinal "PlanBoundsModel" "PlanBoundsModel" "lineOf" "[I") ∈ AW := List.mem_filter.mpr ⟨List.mem_of_getElem? (i := 582) (by decide +kernel), by decide +kernel⟩
theorem m_531 : (Jvm.Cond.lays "PlanBoundsModel" "PlanBoundsModel" "lines" "I") ∈ AW := List.mem_filter.mpr ⟨List.mem_of_getElem? (i := 584) (by decide +kernel), by decide +kernel⟩
theorem m_533 : (Jvm.Cond.lays "PlanBoundsModel" "PlanBoundsModel" "hasRun" "Z") ∈ AW := List.mem_filter.mpr ⟨List.mem_of_getElem? (i := 586) (by decide +kernel), by decide +kernel⟩
theorem m_535 : (Jvm.Cond.lays "PlanBoundsModel" "PlanBoundsModel" "steps" "I") ∈ AW := List.mem_filter.mpr ⟨List.mem_of_getElem? (i := 588) (by decide +kernel), by decide +kernel⟩
theorem m_537 : (Jvm.Cond.lays "PlanBoundsModel" "PlanBoundsModel" "down" "J") ∈ AW := List.mem_filter.mpr ⟨List.mem_of_getElem? (i := 590) (by decide +kernel), by decide +kernel⟩
theorem m_539 : (Jvm.Cond.laysFinal "PlanBoundsModel" "PlanBoundsModel" "place" "[I") ∈ AW := List.mem_filter.mpr ⟨List.mem_of_getElem? (i := 592) (by decide +kernel), by decide +kernel⟩
theorem m_541 : (Jvm.Cond.laysFinal "PlanBoundsModel" "PlanBoundsModel" "outside" "[I") ∈ AW := List.mem_filter.mpr ⟨List.mem_of_getElem? (i := 594) (by decide +kernel), by decide +kernel⟩
theorem m_543 : (Jvm.Cond.laysFinal "PlanBoundsModel" "PlanBoundsModel" "table" "[J") ∈ AW := List.mem_filter.mpr ⟨List.mem_of_getElem? (i := 596) (by decide +kernel), by decide +kernel⟩
theorem m_545 : (Jvm.Cond.laysFinal "PlanBoundsModel" "PlanBoundsModel" "next" "[J") ∈ AW := List.mem_filter.mpr ⟨List.mem_of_getElem? (i := 598) (by decide +kernel), by decide +kernel⟩
theorem m_547 : (Jvm.Cond.lays "PlanBoundsModel" "PlanBoundsModel" "against" "I") ∈ AW := List.mem_filter.mpr ⟨List.mem_of_getElem? (i := 600) (by decide +kernel), by decide +kernel⟩
theorem iT : ∀ w ∈ u_ws RT FT 8, w ∈ AW := by
  intro w h
  obtain ⟨j, hj, rfl⟩ := List.mem_map.mp h
  have hj : j < 8 := List.mem_range.mp hj
  match j, hj with
  | 0, _ => exact m_38
  | 1, _ => exact m_40
  | 2, _ => exact m_42
  | 3, _ => exact m_44
  | 4, _ => exact m_46
  | 5, _ => exact m_48
  | 6, _ => exact m_50
  | 7, _ => exact m_52
  | n + 8, h => exact absurd h (by omega)
theorem iP : ∀ w ∈ u_ws RP FP 12, w ∈ AW := by
  intro w h
  obtain ⟨j, hj, rfl⟩ := List.mem_map.mp h
  have hj : j < 12 := List.mem_range.mp hj
  match j, hj with
  | 0, _ => exact m_75
  | 1, _ => exact m_77
  | 2, _ => exact m_79
  | 3, _ => exact m_81
  | 4, _ => exact m_83
  | 5, _ => exact m_85
  | 6, _ => exact m_87
  | 7, _ => exact m_89
  | 8, _ => exact m_91
  | 9, _ => exact m_93
  | 10, _ => exact m_95
  | 11, _ => exact m_97
  | n + 12, h => exact absurd h (by omega)
theorem iM : ∀ w ∈ u_ws RM FM 19, w ∈ AW := by
  intro w h
  obtain ⟨j, hj, rfl⟩ := List.mem_map.mp h
  have hj : j < 19 := List.mem_range.mp hj
  match j, hj with
  | 0, _ => exact m_511
  | 1, _ => exact m_513
  | 2, _ => exact m_515
  | 3, _ => exact m_517
  | 4, _ => exact m_519
  | 5, _ => exact m_521
  | 6, _ => exact m_523
  | 7, _ => exact m_525
  | 8, _ => exact m_527
  | 9, _ => exact m_529
  | 10, _ => exact m_531
  | 11, _ => exact m_533
  | 12, _ => exact m_535
  | 13, _ => exact m_537
  | 14, _ => exact m_539
  | 15, _ => exact m_541
  | 16, _ => exact m_543
  | 17, _ => exact m_545
  | 18, _ => exact m_547
  | n + 19, h => exact absurd h (by omega)
