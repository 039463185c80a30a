/-! the cells of the class: Table (ad 0 .. ad 5), the factors (ad 6), PlanBounds (ad 7 .. ad 11) -/
def TW (ad : Nat → Nat) (k : Nat → ClassId) (T : TS) : va_W := [(ad 0, .inr (0, [.ref (ad 1), .ref (ad 2), .ref (ad 3), .ref (ad 4), .ref (ad 5), .int (nI T.w), .int (nI T.h), .long T.d])), (ad 1, .inl (k 1, 325, .inr (.inl T.C))), (ad 2, .inl (k 2, 25, .inl T.I)), (ad 3, .inl (k 3, 13, .inl T.O)), (ad 4, .inl (k 4, 13, .inr (.inl T.G))), (ad 5, .inl (k 5, 25, .inr (.inl T.S)))]
def FW (ad : Nat → Nat) (k : Nat → ClassId) (F : Nat → Int32) : va_W := [(ad 6, .inl (k 6, 144, .inl F))]
def PW (ad : Nat → Nat) (k : Nat → ClassId) (P : PS) : va_W := [(ad 7, .inr (1, [.int P.wk, .ref (ad 8), .ref (ad 9), .ref (ad 10), .ref (ad 6), .ref (ad 11), .ref (ad 0), .int (nI P.rows), .int (nI P.rin), .int P.stp, .int (bI P.run), .int P.lat])), (ad 8, .inl (k 8, 12, .inl P.K)), (ad 9, .inl (k 9, 12, .inl P.V)), (ad 10, .inl (k 10, 12, .inr (.inl P.B))), (ad 11, .inl (k 11, 12, .inl P.L))]
def TK (k : Nat → ClassId) : List (ClassId × FieldType) := [(k 1, .long), (k 2, .int), (k 3, .int), (k 4, .long), (k 5, .long)]
def FK (k : Nat → ClassId) : List (ClassId × FieldType) := [(k 6, .int)]
def PK (k : Nat → ClassId) : List (ClassId × FieldType) := [(k 8, .int), (k 9, .int), (k 10, .long), (k 11, .int)]
/-! links between nest mates: no word of AW; each contract of PlanBounds takes them as given, the law brings them -/
def nestL : List Cond := [(Jvm.Cond.methodLinkNest "PlanBounds" (28 : Nat) ({ cls := "PlanBounds$Table", name := "<init>", desc := "()V" } : Jvm.MethodName) "PlanBounds"), (Jvm.Cond.fieldLinkNest "PlanBounds" (236 : Nat) "PlanBounds$Table" "inside" "[I" "PlanBounds"), (Jvm.Cond.fieldLinkNest "PlanBounds" (62 : Nat) "PlanBounds$Table" "width" "I" "PlanBounds"), (Jvm.Cond.fieldLinkNest "PlanBounds" (172 : Nat) "PlanBounds$Table" "height" "I" "PlanBounds"), (Jvm.Cond.fieldLinkNest "PlanBounds" (135 : Nat) "PlanBounds$Table" "d" "J" "PlanBounds"), (Jvm.Cond.methodLinkNest "PlanBounds" (195 : Nat) ({ cls := "PlanBounds$Table", name := "sumOfStarts", desc := "([II)J" } : Jvm.MethodName) "PlanBounds"), (Jvm.Cond.methodLinkNest "PlanBounds" (79 : Nat) ({ cls := "PlanBounds$Table", name := "addColumn", desc := "(J)I" } : Jvm.MethodName) "PlanBounds"), (Jvm.Cond.methodLinkNest "PlanBounds" (226 : Nat) ({ cls := "PlanBounds$Table", name := "copyStarts", desc := "()V" } : Jvm.MethodName) "PlanBounds"), (Jvm.Cond.methodLinkNest "PlanBounds" (229 : Nat) ({ cls := "PlanBounds$Table", name := "moveCopied", desc := "(IJ)V" } : Jvm.MethodName) "PlanBounds"), (Jvm.Cond.methodLinkNest "PlanBounds" (233 : Nat) ({ cls := "PlanBounds$Table", name := "takeCopiedStarts", desc := "()Z" } : Jvm.MethodName) "PlanBounds"), (Jvm.Cond.methodLinkNest "PlanBounds" (205 : Nat) ({ cls := "PlanBounds$Table", name := "tell", desc := "([IIJ)V" } : Jvm.MethodName) "PlanBounds"), (Jvm.Cond.methodLinkNest "PlanBounds" (209 : Nat) ({ cls := "PlanBounds$Table", name := "toldFits", desc := "()Z" } : Jvm.MethodName) "PlanBounds"), (Jvm.Cond.methodLinkNest "PlanBounds" (212 : Nat) ({ cls := "PlanBounds$Table", name := "bringTold", desc := "(I)V" } : Jvm.MethodName) "PlanBounds"), (Jvm.Cond.methodLinkNest "PlanBounds" (161 : Nat) ({ cls := "PlanBounds$Table", name := "leavingPlace", desc := "()I" } : Jvm.MethodName) "PlanBounds"), (Jvm.Cond.methodLinkNest "PlanBounds" (215 : Nat) ({ cls := "PlanBounds$Table", name := "enteringPlace", desc := "(I)I" } : Jvm.MethodName) "PlanBounds"), (Jvm.Cond.methodLinkNest "PlanBounds" (218 : Nat) ({ cls := "PlanBounds$Table", name := "stepFits", desc := "(II)Z" } : Jvm.MethodName) "PlanBounds"), (Jvm.Cond.methodLinkNest "PlanBounds" (222 : Nat) ({ cls := "PlanBounds$Table", name := "change", desc := "(II)V" } : Jvm.MethodName) "PlanBounds"), (Jvm.Cond.methodLinkNest "PlanBounds" (131 : Nat) ({ cls := "PlanBounds$Table", name := "cell", desc := "(II)J" } : Jvm.MethodName) "PlanBounds"), (Jvm.Cond.methodLinkNest "PlanBounds" (143 : Nat) ({ cls := "PlanBounds$Table", name := "startOf", desc := "(I)J" } : Jvm.MethodName) "PlanBounds"), (Jvm.Cond.methodLinkNest "PlanBounds" (156 : Nat) ({ cls := "PlanBounds$Table", name := "numberBy", desc := "(II)J" } : Jvm.MethodName) "PlanBounds")]
def nW (U : State) : Prop := ∀ w ∈ nestL, va_Nw w U
theorem nW_ok : xOK nW := by
  refine ⟨fun u U h q w hw => ?_, fun u U h q w hw => ?_⟩
  · have h1 : nestL.all (fun w => w.onTables) = true := by decide +kernel
    exact va_Nw.same (List.all_eq_true.mp h1 w hw) h (q w hw)
  · have hq := q w hw
    simp only [nestL, List.mem_cons, List.not_mem_nil, or_false] at hw
    rcases hw with rfl | rfl | rfl | rfl | rfl | rfl | rfl | rfl | rfl | rfl | rfl | rfl | rfl | rfl | rfl | rfl | rfl | rfl | rfl | rfl <;> first | exact va_Nw.warmF h hq | exact va_Nw.warmM h hq
theorem nw_0 : (Jvm.Cond.methodLinkNest "PlanBounds" (28 : Nat) ({ cls := "PlanBounds$Table", name := "<init>", desc := "()V" } : Jvm.MethodName) "PlanBounds") ∈ nestL := List.mem_of_getElem? (i := 0) rfl
theorem nw_1 : (Jvm.Cond.fieldLinkNest "PlanBounds" (236 : Nat) "PlanBounds$Table" "inside" "[I" "PlanBounds") ∈ nestL := List.mem_of_getElem? (i := 1) rfl
theorem nw_2 : (Jvm.Cond.fieldLinkNest "PlanBounds" (62 : Nat) "PlanBounds$Table" "width" "I" "PlanBounds") ∈ nestL := List.mem_of_getElem? (i := 2) rfl
theorem nw_3 : (Jvm.Cond.fieldLinkNest "PlanBounds" (172 : Nat) "PlanBounds$Table" "height" "I" "PlanBounds") ∈ nestL := List.mem_of_getElem? (i := 3) rfl
theorem nw_4 : (Jvm.Cond.fieldLinkNest "PlanBounds" (135 : Nat) "PlanBounds$Table" "d" "J" "PlanBounds") ∈ nestL := List.mem_of_getElem? (i := 4) rfl
theorem nw_5 : (Jvm.Cond.methodLinkNest "PlanBounds" (195 : Nat) ({ cls := "PlanBounds$Table", name := "sumOfStarts", desc := "([II)J" } : Jvm.MethodName) "PlanBounds") ∈ nestL := List.mem_of_getElem? (i := 5) rfl
theorem nw_6 : (Jvm.Cond.methodLinkNest "PlanBounds" (79 : Nat) ({ cls := "PlanBounds$Table", name := "addColumn", desc := "(J)I" } : Jvm.MethodName) "PlanBounds") ∈ nestL := List.mem_of_getElem? (i := 6) rfl
theorem nw_7 : (Jvm.Cond.methodLinkNest "PlanBounds" (226 : Nat) ({ cls := "PlanBounds$Table", name := "copyStarts", desc := "()V" } : Jvm.MethodName) "PlanBounds") ∈ nestL := List.mem_of_getElem? (i := 7) rfl
theorem nw_8 : (Jvm.Cond.methodLinkNest "PlanBounds" (229 : Nat) ({ cls := "PlanBounds$Table", name := "moveCopied", desc := "(IJ)V" } : Jvm.MethodName) "PlanBounds") ∈ nestL := List.mem_of_getElem? (i := 8) rfl
theorem nw_9 : (Jvm.Cond.methodLinkNest "PlanBounds" (233 : Nat) ({ cls := "PlanBounds$Table", name := "takeCopiedStarts", desc := "()Z" } : Jvm.MethodName) "PlanBounds") ∈ nestL := List.mem_of_getElem? (i := 9) rfl
theorem nw_10 : (Jvm.Cond.methodLinkNest "PlanBounds" (205 : Nat) ({ cls := "PlanBounds$Table", name := "tell", desc := "([IIJ)V" } : Jvm.MethodName) "PlanBounds") ∈ nestL := List.mem_of_getElem? (i := 10) rfl
theorem nw_11 : (Jvm.Cond.methodLinkNest "PlanBounds" (209 : Nat) ({ cls := "PlanBounds$Table", name := "toldFits", desc := "()Z" } : Jvm.MethodName) "PlanBounds") ∈ nestL := List.mem_of_getElem? (i := 11) rfl
theorem nw_12 : (Jvm.Cond.methodLinkNest "PlanBounds" (212 : Nat) ({ cls := "PlanBounds$Table", name := "bringTold", desc := "(I)V" } : Jvm.MethodName) "PlanBounds") ∈ nestL := List.mem_of_getElem? (i := 12) rfl
theorem nw_13 : (Jvm.Cond.methodLinkNest "PlanBounds" (161 : Nat) ({ cls := "PlanBounds$Table", name := "leavingPlace", desc := "()I" } : Jvm.MethodName) "PlanBounds") ∈ nestL := List.mem_of_getElem? (i := 13) rfl
theorem nw_14 : (Jvm.Cond.methodLinkNest "PlanBounds" (215 : Nat) ({ cls := "PlanBounds$Table", name := "enteringPlace", desc := "(I)I" } : Jvm.MethodName) "PlanBounds") ∈ nestL := List.mem_of_getElem? (i := 14) rfl
theorem nw_15 : (Jvm.Cond.methodLinkNest "PlanBounds" (218 : Nat) ({ cls := "PlanBounds$Table", name := "stepFits", desc := "(II)Z" } : Jvm.MethodName) "PlanBounds") ∈ nestL := List.mem_of_getElem? (i := 15) rfl
theorem nw_16 : (Jvm.Cond.methodLinkNest "PlanBounds" (222 : Nat) ({ cls := "PlanBounds$Table", name := "change", desc := "(II)V" } : Jvm.MethodName) "PlanBounds") ∈ nestL := List.mem_of_getElem? (i := 16) rfl
theorem nw_17 : (Jvm.Cond.methodLinkNest "PlanBounds" (131 : Nat) ({ cls := "PlanBounds$Table", name := "cell", desc := "(II)J" } : Jvm.MethodName) "PlanBounds") ∈ nestL := List.mem_of_getElem? (i := 17) rfl
theorem nw_18 : (Jvm.Cond.methodLinkNest "PlanBounds" (143 : Nat) ({ cls := "PlanBounds$Table", name := "startOf", desc := "(I)J" } : Jvm.MethodName) "PlanBounds") ∈ nestL := List.mem_of_getElem? (i := 18) rfl
theorem nw_19 : (Jvm.Cond.methodLinkNest "PlanBounds" (156 : Nat) ({ cls := "PlanBounds$Table", name := "numberBy", desc := "(II)J" } : Jvm.MethodName) "PlanBounds") ∈ nestL := List.mem_of_getElem? (i := 19) rfl
theorem gV {own C : String} {idx : Nat} {y : MethodName} {b : ByteArray} {n : Nat} {r : Option FieldType} (h1 : Cond.methodLink own idx y ∈ AW) (h2 : Cond.instanceMethod y ∈ AW) (h3 : Cond.selects C y y ∈ AW) (h4 : Cond.initialized C ∈ AW) (h5 : Cond.code y b n r ∈ AW) : GoodIn AW (wsV own idx C y (Cond.code y b n r :: AW)) := by
  intro w hw
  refine ⟨?_, ?_⟩
  all_goals
    simp only [wsV, List.mem_append, List.mem_cons, List.not_mem_nil, or_false] at hw
    rcases hw with (rfl | rfl | rfl | rfl) | rfl | hw
    all_goals first | assumption | exact AW_ok (by assumption)
theorem gS {own : String} {idx : Nat} {y : MethodName} {b : ByteArray} {n : Nat} {r : Option FieldType} (h1 : Cond.methodLink own idx y ∈ AW) (h2 : Cond.static y ∈ AW) (h4 : Cond.initialized own ∈ AW) (h5 : Cond.code y b n r ∈ AW) : GoodIn AW (wsS own idx y (Cond.code y b n r :: AW)) := by
  intro w hw
  refine ⟨?_, ?_⟩
  all_goals
    simp only [wsS, List.mem_append, List.mem_cons, List.not_mem_nil, or_false] at hw
    rcases hw with (rfl | rfl | rfl) | rfl | hw
    all_goals first | assumption | exact AW_ok (by assumption)
theorem gA {own : String} {idx : Nat} {y : MethodName} {b : ByteArray} {n : Nat} {r : Option FieldType} (h1 : Cond.methodLink own idx y ∈ AW) (h2 : Cond.static y ∈ AW) (h4 : Cond.initialized y.cls ∈ AW) (h5 : Cond.code y b n r ∈ AW) : GoodIn AW (va_wsS own idx y (Cond.code y b n r :: AW)) := by
  intro w hw
  refine ⟨?_, ?_⟩
  all_goals
    simp only [va_wsS, List.mem_append, List.mem_cons, List.not_mem_nil, or_false] at hw
    rcases hw with (rfl | rfl | rfl) | rfl | hw
    all_goals first | assumption | exact AW_ok (by assumption)
theorem gC {c : Cond} (h5 : c ∈ AW) : GoodIn AW (c :: AW) := by
  intro w hw
  rcases List.mem_cons.mp hw with rfl | hw
  · exact ⟨h5, AW_ok h5⟩
  · exact ⟨hw, AW_ok hw⟩
