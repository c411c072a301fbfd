theorem mw_0 : (Jvm.Cond.initialized "SpanRulesLaw") ∈ ww := ww_mem (List.mem_append_right _ (List.mem_append_left _ (List.mem_of_getElem? (i := 0) rfl))) rfl
theorem mw_16 : (Jvm.Cond.classLink "SpanRulesLaw" (8 : Nat) "SpanRules") ∈ ww := ww_mem (List.mem_append_right _ (List.mem_append_left _ (List.mem_of_getElem? (i := 16) rfl))) rfl
theorem mw_17 : (Jvm.Cond.instantiable "SpanRules" (14 : Nat)) ∈ ww := ww_mem (List.mem_append_right _ (List.mem_append_left _ (List.mem_of_getElem? (i := 17) rfl))) rfl
theorem mw_18 : (Jvm.Cond.methodLink "SpanRulesLaw" (21 : Nat) ({ cls := "SpanRules", name := "<init>", desc := "(III)V" } : Jvm.MethodName)) ∈ ww := ww_mem (List.mem_append_right _ (List.mem_append_left _ (List.mem_of_getElem? (i := 18) rfl))) rfl
theorem mw_19 : (Jvm.Cond.instanceMethod ({ cls := "SpanRules", name := "<init>", desc := "(III)V" } : Jvm.MethodName)) ∈ ww := ww_mem (List.mem_append_right _ (List.mem_append_left _ (List.mem_of_getElem? (i := 19) rfl))) rfl
theorem mw_20 : (Jvm.Cond.code ({ cls := "SpanRules", name := "<init>", desc := "(III)V" } : Jvm.MethodName) prog_1_method_1_code (7 : Nat) (Option.none : Option Jvm.ClassFile.FieldType)) ∈ ww := ww_mem (List.mem_append_right _ (List.mem_append_left _ (List.mem_of_getElem? (i := 20) rfl))) rfl
theorem mw_275 : (Jvm.Cond.methodLink "SpanRulesLaw" (29 : Nat) ({ cls := "SpanRules", name := "offset", desc := "(J)I" } : Jvm.MethodName)) ∈ ww := ww_mem (List.mem_append_right _ (List.mem_append_right _ (List.mem_append_left _ (List.mem_of_getElem? (i := 35) rfl)))) rfl
theorem mw_276 : (Jvm.Cond.instanceMethod ({ cls := "SpanRules", name := "offset", desc := "(J)I" } : Jvm.MethodName)) ∈ ww := ww_mem (List.mem_append_right _ (List.mem_append_right _ (List.mem_append_left _ (List.mem_of_getElem? (i := 36) rfl)))) rfl
theorem mw_277 : (Jvm.Cond.selects "SpanRules" ({ cls := "SpanRules", name := "offset", desc := "(J)I" } : Jvm.MethodName) ({ cls := "SpanRules", name := "offset", desc := "(J)I" } : Jvm.MethodName)) ∈ ww := ww_mem (List.mem_append_right _ (List.mem_append_right _ (List.mem_append_left _ (List.mem_of_getElem? (i := 37) rfl)))) rfl
theorem mw_278 : (Jvm.Cond.code ({ cls := "SpanRules", name := "offset", desc := "(J)I" } : Jvm.MethodName) prog_1_method_2_code (3 : Nat) (Option.some Jvm.ClassFile.FieldType.int)) ∈ ww := ww_mem (List.mem_append_right _ (List.mem_append_right _ (List.mem_append_left _ (List.mem_of_getElem? (i := 38) rfl)))) rfl
theorem mw_284 : (Jvm.Cond.methodLink "SpanRulesLaw" (34 : Nat) ({ cls := "SpanRules", name := "lateness", desc := "(J)I" } : Jvm.MethodName)) ∈ ww := ww_mem (List.mem_append_right _ (List.mem_append_right _ (List.mem_append_left _ (List.mem_of_getElem? (i := 44) rfl)))) rfl
theorem mw_285 : (Jvm.Cond.instanceMethod ({ cls := "SpanRules", name := "lateness", desc := "(J)I" } : Jvm.MethodName)) ∈ ww := ww_mem (List.mem_append_right _ (List.mem_append_right _ (List.mem_append_left _ (List.mem_of_getElem? (i := 45) rfl)))) rfl
theorem mw_286 : (Jvm.Cond.selects "SpanRules" ({ cls := "SpanRules", name := "lateness", desc := "(J)I" } : Jvm.MethodName) ({ cls := "SpanRules", name := "lateness", desc := "(J)I" } : Jvm.MethodName)) ∈ ww := ww_mem (List.mem_append_right _ (List.mem_append_right _ (List.mem_append_left _ (List.mem_of_getElem? (i := 46) rfl)))) rfl
theorem mw_287 : (Jvm.Cond.code ({ cls := "SpanRules", name := "lateness", desc := "(J)I" } : Jvm.MethodName) prog_1_method_3_code (3 : Nat) (Option.some Jvm.ClassFile.FieldType.int)) ∈ ww := ww_mem (List.mem_append_right _ (List.mem_append_right _ (List.mem_append_left _ (List.mem_of_getElem? (i := 47) rfl)))) rfl
theorem mw_288 : (Jvm.Cond.methodLink "SpanRulesLaw" (38 : Nat) ({ cls := "SpanRules", name := "trigger", desc := "(IZ)I" } : Jvm.MethodName)) ∈ ww := ww_mem (List.mem_append_right _ (List.mem_append_right _ (List.mem_append_left _ (List.mem_of_getElem? (i := 48) rfl)))) rfl
theorem mw_289 : (Jvm.Cond.instanceMethod ({ cls := "SpanRules", name := "trigger", desc := "(IZ)I" } : Jvm.MethodName)) ∈ ww := ww_mem (List.mem_append_right _ (List.mem_append_right _ (List.mem_append_left _ (List.mem_of_getElem? (i := 49) rfl)))) rfl
theorem mw_290 : (Jvm.Cond.selects "SpanRules" ({ cls := "SpanRules", name := "trigger", desc := "(IZ)I" } : Jvm.MethodName) ({ cls := "SpanRules", name := "trigger", desc := "(IZ)I" } : Jvm.MethodName)) ∈ ww := ww_mem (List.mem_append_right _ (List.mem_append_right _ (List.mem_append_left _ (List.mem_of_getElem? (i := 50) rfl)))) rfl
theorem mw_291 : (Jvm.Cond.code ({ cls := "SpanRules", name := "trigger", desc := "(IZ)I" } : Jvm.MethodName) prog_1_method_4_code (3 : Nat) (Option.some Jvm.ClassFile.FieldType.int)) ∈ ww := ww_mem (List.mem_append_right _ (List.mem_append_right _ (List.mem_append_left _ (List.mem_of_getElem? (i := 51) rfl)))) rfl
theorem mw_293 : (Jvm.Cond.methodLink "SpanRulesLaw" (43 : Nat) ({ cls := "SpanRules", name := "clears", desc := "(Z)I" } : Jvm.MethodName)) ∈ ww := ww_mem (List.mem_append_right _ (List.mem_append_right _ (List.mem_append_left _ (List.mem_of_getElem? (i := 53) rfl)))) rfl
theorem mw_294 : (Jvm.Cond.instanceMethod ({ cls := "SpanRules", name := "clears", desc := "(Z)I" } : Jvm.MethodName)) ∈ ww := ww_mem (List.mem_append_right _ (List.mem_append_right _ (List.mem_append_left _ (List.mem_of_getElem? (i := 54) rfl)))) rfl
theorem mw_295 : (Jvm.Cond.selects "SpanRules" ({ cls := "SpanRules", name := "clears", desc := "(Z)I" } : Jvm.MethodName) ({ cls := "SpanRules", name := "clears", desc := "(Z)I" } : Jvm.MethodName)) ∈ ww := ww_mem (List.mem_append_right _ (List.mem_append_right _ (List.mem_append_left _ (List.mem_of_getElem? (i := 55) rfl)))) rfl
theorem mw_296 : (Jvm.Cond.code ({ cls := "SpanRules", name := "clears", desc := "(Z)I" } : Jvm.MethodName) prog_1_method_5_code (2 : Nat) (Option.some Jvm.ClassFile.FieldType.int)) ∈ ww := ww_mem (List.mem_append_right _ (List.mem_append_right _ (List.mem_append_left _ (List.mem_of_getElem? (i := 56) rfl)))) rfl
theorem mw_297 : (Jvm.Cond.methodLink "SpanRulesLaw" (48 : Nat) ({ cls := "SpanRules", name := "rule", desc := "(I)I" } : Jvm.MethodName)) ∈ ww := ww_mem (List.mem_append_right _ (List.mem_append_right _ (List.mem_append_left _ (List.mem_of_getElem? (i := 57) rfl)))) rfl
theorem mw_298 : (Jvm.Cond.instanceMethod ({ cls := "SpanRules", name := "rule", desc := "(I)I" } : Jvm.MethodName)) ∈ ww := ww_mem (List.mem_append_right _ (List.mem_append_right _ (List.mem_append_left _ (List.mem_of_getElem? (i := 58) rfl)))) rfl
theorem mw_299 : (Jvm.Cond.selects "SpanRules" ({ cls := "SpanRules", name := "rule", desc := "(I)I" } : Jvm.MethodName) ({ cls := "SpanRules", name := "rule", desc := "(I)I" } : Jvm.MethodName)) ∈ ww := ww_mem (List.mem_append_right _ (List.mem_append_right _ (List.mem_append_left _ (List.mem_of_getElem? (i := 59) rfl)))) rfl
theorem mw_300 : (Jvm.Cond.code ({ cls := "SpanRules", name := "rule", desc := "(I)I" } : Jvm.MethodName) prog_1_method_6_code (3 : Nat) (Option.some Jvm.ClassFile.FieldType.int)) ∈ ww := ww_mem (List.mem_append_right _ (List.mem_append_right _ (List.mem_append_left _ (List.mem_of_getElem? (i := 60) rfl)))) rfl
theorem mw_302 : (Jvm.Cond.methodLink "SpanRulesLaw" (53 : Nat) ({ cls := "SpanRules", name := "forbid", desc := "(IJ)I" } : Jvm.MethodName)) ∈ ww := ww_mem (List.mem_append_right _ (List.mem_append_right _ (List.mem_append_left _ (List.mem_of_getElem? (i := 62) rfl)))) rfl
theorem mw_303 : (Jvm.Cond.instanceMethod ({ cls := "SpanRules", name := "forbid", desc := "(IJ)I" } : Jvm.MethodName)) ∈ ww := ww_mem (List.mem_append_right _ (List.mem_append_right _ (List.mem_append_left _ (List.mem_of_getElem? (i := 63) rfl)))) rfl
theorem mw_304 : (Jvm.Cond.selects "SpanRules" ({ cls := "SpanRules", name := "forbid", desc := "(IJ)I" } : Jvm.MethodName) ({ cls := "SpanRules", name := "forbid", desc := "(IJ)I" } : Jvm.MethodName)) ∈ ww := ww_mem (List.mem_append_right _ (List.mem_append_right _ (List.mem_append_left _ (List.mem_of_getElem? (i := 64) rfl)))) rfl
theorem mw_305 : (Jvm.Cond.code ({ cls := "SpanRules", name := "forbid", desc := "(IJ)I" } : Jvm.MethodName) prog_1_method_7_code (4 : Nat) (Option.some Jvm.ClassFile.FieldType.int)) ∈ ww := ww_mem (List.mem_append_right _ (List.mem_append_right _ (List.mem_append_left _ (List.mem_of_getElem? (i := 65) rfl)))) rfl
theorem mw_314 : (Jvm.Cond.methodLink "SpanRulesLaw" (66 : Nat) ({ cls := "SpanRules", name := "mark", desc := "(J)I" } : Jvm.MethodName)) ∈ ww := ww_mem (List.mem_append_right _ (List.mem_append_right _ (List.mem_append_left _ (List.mem_of_getElem? (i := 74) rfl)))) rfl
theorem mw_315 : (Jvm.Cond.instanceMethod ({ cls := "SpanRules", name := "mark", desc := "(J)I" } : Jvm.MethodName)) ∈ ww := ww_mem (List.mem_append_right _ (List.mem_append_right _ (List.mem_append_left _ (List.mem_of_getElem? (i := 75) rfl)))) rfl
theorem mw_316 : (Jvm.Cond.selects "SpanRules" ({ cls := "SpanRules", name := "mark", desc := "(J)I" } : Jvm.MethodName) ({ cls := "SpanRules", name := "mark", desc := "(J)I" } : Jvm.MethodName)) ∈ ww := ww_mem (List.mem_append_right _ (List.mem_append_right _ (List.mem_append_left _ (List.mem_of_getElem? (i := 76) rfl)))) rfl
theorem mw_317 : (Jvm.Cond.code ({ cls := "SpanRules", name := "mark", desc := "(J)I" } : Jvm.MethodName) prog_1_method_9_code (3 : Nat) (Option.some Jvm.ClassFile.FieldType.int)) ∈ ww := ww_mem (List.mem_append_right _ (List.mem_append_right _ (List.mem_append_left _ (List.mem_of_getElem? (i := 77) rfl)))) rfl
theorem mw_411 : (Jvm.Cond.methodLink "SpanRulesLaw" (70 : Nat) ({ cls := "SpanRules", name := "count", desc := "(I)I" } : Jvm.MethodName)) ∈ ww := ww_mem (List.mem_append_right _ (List.mem_append_right _ (List.mem_append_left _ (List.mem_of_getElem? (i := 171) rfl)))) rfl
theorem mw_412 : (Jvm.Cond.instanceMethod ({ cls := "SpanRules", name := "count", desc := "(I)I" } : Jvm.MethodName)) ∈ ww := ww_mem (List.mem_append_right _ (List.mem_append_right _ (List.mem_append_left _ (List.mem_of_getElem? (i := 172) rfl)))) rfl
theorem mw_413 : (Jvm.Cond.selects "SpanRules" ({ cls := "SpanRules", name := "count", desc := "(I)I" } : Jvm.MethodName) ({ cls := "SpanRules", name := "count", desc := "(I)I" } : Jvm.MethodName)) ∈ ww := ww_mem (List.mem_append_right _ (List.mem_append_right _ (List.mem_append_left _ (List.mem_of_getElem? (i := 173) rfl)))) rfl
theorem mw_414 : (Jvm.Cond.code ({ cls := "SpanRules", name := "count", desc := "(I)I" } : Jvm.MethodName) prog_1_method_10_code (2 : Nat) (Option.some Jvm.ClassFile.FieldType.int)) ∈ ww := ww_mem (List.mem_append_right _ (List.mem_append_right _ (List.mem_append_left _ (List.mem_of_getElem? (i := 174) rfl)))) rfl
theorem mw_422 : (Jvm.Cond.methodLink "SpanRulesLaw" (74 : Nat) ({ cls := "SpanRules", name := "fired", desc := "(II)J" } : Jvm.MethodName)) ∈ ww := ww_mem (List.mem_append_right _ (List.mem_append_right _ (List.mem_append_left _ (List.mem_of_getElem? (i := 182) rfl)))) rfl
theorem mw_423 : (Jvm.Cond.instanceMethod ({ cls := "SpanRules", name := "fired", desc := "(II)J" } : Jvm.MethodName)) ∈ ww := ww_mem (List.mem_append_right _ (List.mem_append_right _ (List.mem_append_left _ (List.mem_of_getElem? (i := 183) rfl)))) rfl
theorem mw_424 : (Jvm.Cond.selects "SpanRules" ({ cls := "SpanRules", name := "fired", desc := "(II)J" } : Jvm.MethodName) ({ cls := "SpanRules", name := "fired", desc := "(II)J" } : Jvm.MethodName)) ∈ ww := ww_mem (List.mem_append_right _ (List.mem_append_right _ (List.mem_append_left _ (List.mem_of_getElem? (i := 184) rfl)))) rfl
theorem mw_425 : (Jvm.Cond.code ({ cls := "SpanRules", name := "fired", desc := "(II)J" } : Jvm.MethodName) prog_1_method_11_code (3 : Nat) (Option.some Jvm.ClassFile.FieldType.long)) ∈ ww := ww_mem (List.mem_append_right _ (List.mem_append_right _ (List.mem_append_left _ (List.mem_of_getElem? (i := 185) rfl)))) rfl
theorem mw_434 : (Jvm.Cond.methodLink "SpanRulesLaw" (79 : Nat) ({ cls := "SpanRules", name := "spans", desc := "(I)I" } : Jvm.MethodName)) ∈ ww := ww_mem (List.mem_append_right _ (List.mem_append_right _ (List.mem_append_left _ (List.mem_of_getElem? (i := 194) rfl)))) rfl
theorem mw_435 : (Jvm.Cond.instanceMethod ({ cls := "SpanRules", name := "spans", desc := "(I)I" } : Jvm.MethodName)) ∈ ww := ww_mem (List.mem_append_right _ (List.mem_append_right _ (List.mem_append_left _ (List.mem_of_getElem? (i := 195) rfl)))) rfl
theorem mw_436 : (Jvm.Cond.selects "SpanRules" ({ cls := "SpanRules", name := "spans", desc := "(I)I" } : Jvm.MethodName) ({ cls := "SpanRules", name := "spans", desc := "(I)I" } : Jvm.MethodName)) ∈ ww := ww_mem (List.mem_append_right _ (List.mem_append_right _ (List.mem_append_left _ (List.mem_of_getElem? (i := 196) rfl)))) rfl
theorem mw_437 : (Jvm.Cond.code ({ cls := "SpanRules", name := "spans", desc := "(I)I" } : Jvm.MethodName) prog_1_method_12_code (2 : Nat) (Option.some Jvm.ClassFile.FieldType.int)) ∈ ww := ww_mem (List.mem_append_right _ (List.mem_append_right _ (List.mem_append_left _ (List.mem_of_getElem? (i := 197) rfl)))) rfl
theorem mw_446 : (Jvm.Cond.methodLink "SpanRulesLaw" (83 : Nat) ({ cls := "SpanRules", name := "span", desc := "(III)J" } : Jvm.MethodName)) ∈ ww := ww_mem (List.mem_append_right _ (List.mem_append_right _ (List.mem_append_left _ (List.mem_of_getElem? (i := 206) rfl)))) rfl
theorem mw_447 : (Jvm.Cond.instanceMethod ({ cls := "SpanRules", name := "span", desc := "(III)J" } : Jvm.MethodName)) ∈ ww := ww_mem (List.mem_append_right _ (List.mem_append_right _ (List.mem_append_left _ (List.mem_of_getElem? (i := 207) rfl)))) rfl
theorem mw_448 : (Jvm.Cond.selects "SpanRules" ({ cls := "SpanRules", name := "span", desc := "(III)J" } : Jvm.MethodName) ({ cls := "SpanRules", name := "span", desc := "(III)J" } : Jvm.MethodName)) ∈ ww := ww_mem (List.mem_append_right _ (List.mem_append_right _ (List.mem_append_left _ (List.mem_of_getElem? (i := 208) rfl)))) rfl
theorem mw_449 : (Jvm.Cond.code ({ cls := "SpanRules", name := "span", desc := "(III)J" } : Jvm.MethodName) prog_1_method_13_code (5 : Nat) (Option.some Jvm.ClassFile.FieldType.long)) ∈ ww := ww_mem (List.mem_append_right _ (List.mem_append_right _ (List.mem_append_left _ (List.mem_of_getElem? (i := 209) rfl)))) rfl
theorem mw_455 : (Jvm.Cond.methodLink "SpanRulesLaw" (88 : Nat) ({ cls := "SpanRules", name := "month", desc := "(I)I" } : Jvm.MethodName)) ∈ ww := ww_mem (List.mem_append_right _ (List.mem_append_right _ (List.mem_append_left _ (List.mem_of_getElem? (i := 215) rfl)))) rfl
theorem mw_456 : (Jvm.Cond.instanceMethod ({ cls := "SpanRules", name := "month", desc := "(I)I" } : Jvm.MethodName)) ∈ ww := ww_mem (List.mem_append_right _ (List.mem_append_right _ (List.mem_append_left _ (List.mem_of_getElem? (i := 216) rfl)))) rfl
theorem mw_457 : (Jvm.Cond.selects "SpanRules" ({ cls := "SpanRules", name := "month", desc := "(I)I" } : Jvm.MethodName) ({ cls := "SpanRules", name := "month", desc := "(I)I" } : Jvm.MethodName)) ∈ ww := ww_mem (List.mem_append_right _ (List.mem_append_right _ (List.mem_append_left _ (List.mem_of_getElem? (i := 217) rfl)))) rfl
theorem mw_458 : (Jvm.Cond.code ({ cls := "SpanRules", name := "month", desc := "(I)I" } : Jvm.MethodName) prog_1_method_14_code (2 : Nat) (Option.some Jvm.ClassFile.FieldType.int)) ∈ ww := ww_mem (List.mem_append_right _ (List.mem_append_right _ (List.mem_append_left _ (List.mem_of_getElem? (i := 218) rfl)))) rfl
theorem mw_476 : (Jvm.Cond.methodLink "SpanRulesLaw" (15 : Nat) ({ cls := "SpanRulesLaw", name := "cell", desc := "([II)I" } : Jvm.MethodName)) ∈ ww := ww_mem (List.mem_append_right _ (List.mem_append_right _ (List.mem_append_left _ (List.mem_of_getElem? (i := 236) rfl)))) rfl
theorem mw_477 : (Jvm.Cond.static ({ cls := "SpanRulesLaw", name := "cell", desc := "([II)I" } : Jvm.MethodName)) ∈ ww := ww_mem (List.mem_append_right _ (List.mem_append_right _ (List.mem_append_left _ (List.mem_of_getElem? (i := 237) rfl)))) rfl
theorem mw_478 : (Jvm.Cond.code ({ cls := "SpanRulesLaw", name := "cell", desc := "([II)I" } : Jvm.MethodName) method_2_code (2 : Nat) (Option.some Jvm.ClassFile.FieldType.int)) ∈ ww := ww_mem (List.mem_append_right _ (List.mem_append_right _ (List.mem_append_left _ (List.mem_of_getElem? (i := 238) rfl)))) rfl
theorem mw_479 : (Jvm.Cond.methodLink "SpanRulesLaw" (58 : Nat) ({ cls := "SpanRulesLaw", name := "row", desc := "(LSpanRules;IJJ[J)I" } : Jvm.MethodName)) ∈ ww := ww_mem (List.mem_append_right _ (List.mem_append_right _ (List.mem_append_left _ (List.mem_of_getElem? (i := 239) rfl)))) rfl
theorem mw_480 : (Jvm.Cond.static ({ cls := "SpanRulesLaw", name := "row", desc := "(LSpanRules;IJJ[J)I" } : Jvm.MethodName)) ∈ ww := ww_mem (List.mem_append_right _ (List.mem_append_right _ (List.mem_append_right _ (List.mem_append_left _ (List.mem_of_getElem? (i := 0) rfl))))) rfl
theorem mw_481 : (Jvm.Cond.codeWith ({ cls := "SpanRulesLaw", name := "row", desc := "(LSpanRules;IJJ[J)I" } : Jvm.MethodName) method_3_code (8 : Nat) (Option.some Jvm.ClassFile.FieldType.int) [((0 : Nat), (13 : Nat), (16 : Nat), (13 : Nat))]) ∈ ww := ww_mem (List.mem_append_right _ (List.mem_append_right _ (List.mem_append_right _ (List.mem_append_left _ (List.mem_of_getElem? (i := 1) rfl))))) rfl
theorem mw_482 : (Jvm.Cond.classLink "SpanRulesLaw" (13 : Nat) "java/lang/ArithmeticException") ∈ ww := ww_mem (List.mem_append_right _ (List.mem_append_right _ (List.mem_append_right _ (List.mem_append_left _ (List.mem_of_getElem? (i := 2) rfl))))) rfl
theorem mw_483 : (Jvm.Cond.methodLink "SpanRulesLaw" (7 : Nat) ({ cls := "SpanRules", name := "row", desc := "(IJJ)I" } : Jvm.MethodName)) ∈ ww := ww_mem (List.mem_append_right _ (List.mem_append_right _ (List.mem_append_right _ (List.mem_append_left _ (List.mem_of_getElem? (i := 3) rfl))))) rfl
theorem mw_484 : (Jvm.Cond.instanceMethod ({ cls := "SpanRules", name := "row", desc := "(IJJ)I" } : Jvm.MethodName)) ∈ ww := ww_mem (List.mem_append_right _ (List.mem_append_right _ (List.mem_append_right _ (List.mem_append_left _ (List.mem_of_getElem? (i := 4) rfl))))) rfl
theorem mw_485 : (Jvm.Cond.selects "SpanRules" ({ cls := "SpanRules", name := "row", desc := "(IJJ)I" } : Jvm.MethodName) ({ cls := "SpanRules", name := "row", desc := "(IJJ)I" } : Jvm.MethodName)) ∈ ww := ww_mem (List.mem_append_right _ (List.mem_append_right _ (List.mem_append_right _ (List.mem_append_left _ (List.mem_of_getElem? (i := 5) rfl))))) rfl
theorem mw_486 : (Jvm.Cond.code ({ cls := "SpanRules", name := "row", desc := "(IJJ)I" } : Jvm.MethodName) prog_1_method_8_code (8 : Nat) (Option.some Jvm.ClassFile.FieldType.int)) ∈ ww := ww_mem (List.mem_append_right _ (List.mem_append_right _ (List.mem_append_right _ (List.mem_append_left _ (List.mem_of_getElem? (i := 6) rfl))))) rfl
theorem mw_680 : (Jvm.Cond.classLink "SpanRulesLaw" (24 : Nat) "SpanRulesModel") ∈ ww := ww_mem (List.mem_append_right _ (List.mem_append_right _ (List.mem_append_right _ (List.mem_append_left _ (List.mem_of_getElem? (i := 200) rfl))))) rfl
theorem mw_681 : (Jvm.Cond.instantiable "SpanRulesModel" (42 : Nat)) ∈ ww := ww_mem (List.mem_append_right _ (List.mem_append_right _ (List.mem_append_right _ (List.mem_append_left _ (List.mem_of_getElem? (i := 201) rfl))))) rfl
theorem mw_682 : (Jvm.Cond.methodLink "SpanRulesLaw" (26 : Nat) ({ cls := "SpanRulesModel", name := "<init>", desc := "(III)V" } : Jvm.MethodName)) ∈ ww := ww_mem (List.mem_append_right _ (List.mem_append_right _ (List.mem_append_right _ (List.mem_append_left _ (List.mem_of_getElem? (i := 202) rfl))))) rfl
theorem mw_683 : (Jvm.Cond.instanceMethod ({ cls := "SpanRulesModel", name := "<init>", desc := "(III)V" } : Jvm.MethodName)) ∈ ww := ww_mem (List.mem_append_right _ (List.mem_append_right _ (List.mem_append_right _ (List.mem_append_left _ (List.mem_of_getElem? (i := 203) rfl))))) rfl
theorem mw_684 : (Jvm.Cond.code ({ cls := "SpanRulesModel", name := "<init>", desc := "(III)V" } : Jvm.MethodName) prog_11_method_3_code (5 : Nat) (Option.none : Option Jvm.ClassFile.FieldType)) ∈ ww := ww_mem (List.mem_append_right _ (List.mem_append_right _ (List.mem_append_right _ (List.mem_append_left _ (List.mem_of_getElem? (i := 204) rfl))))) rfl
theorem mw_819 : (Jvm.Cond.methodLink "SpanRulesLaw" (62 : Nat) ({ cls := "SpanRulesModel", name := "thrown", desc := "()I" } : Jvm.MethodName)) ∈ ww := ww_mem (List.mem_append_right _ (List.mem_append_right _ (List.mem_append_right _ (List.mem_append_right _ (List.mem_append_left _ (List.mem_of_getElem? (i := 99) rfl)))))) rfl
theorem mw_820 : (Jvm.Cond.instanceMethod ({ cls := "SpanRulesModel", name := "thrown", desc := "()I" } : Jvm.MethodName)) ∈ ww := ww_mem (List.mem_append_right _ (List.mem_append_right _ (List.mem_append_right _ (List.mem_append_right _ (List.mem_append_left _ (List.mem_of_getElem? (i := 100) rfl)))))) rfl
theorem mw_821 : (Jvm.Cond.selects "SpanRulesModel" ({ cls := "SpanRulesModel", name := "thrown", desc := "()I" } : Jvm.MethodName) ({ cls := "SpanRulesModel", name := "thrown", desc := "()I" } : Jvm.MethodName)) ∈ ww := ww_mem (List.mem_append_right _ (List.mem_append_right _ (List.mem_append_right _ (List.mem_append_right _ (List.mem_append_left _ (List.mem_of_getElem? (i := 101) rfl)))))) rfl
theorem mw_822 : (Jvm.Cond.code ({ cls := "SpanRulesModel", name := "thrown", desc := "()I" } : Jvm.MethodName) prog_11_method_4_code (1 : Nat) (Option.some Jvm.ClassFile.FieldType.int)) ∈ ww := ww_mem (List.mem_append_right _ (List.mem_append_right _ (List.mem_append_right _ (List.mem_append_right _ (List.mem_append_left _ (List.mem_of_getElem? (i := 102) rfl)))))) rfl
theorem mw_823 : (Jvm.Cond.methodLink "SpanRulesLaw" (33 : Nat) ({ cls := "SpanRulesModel", name := "offset", desc := "(J)I" } : Jvm.MethodName)) ∈ ww := ww_mem (List.mem_append_right _ (List.mem_append_right _ (List.mem_append_right _ (List.mem_append_right _ (List.mem_append_left _ (List.mem_of_getElem? (i := 103) rfl)))))) rfl
theorem mw_824 : (Jvm.Cond.instanceMethod ({ cls := "SpanRulesModel", name := "offset", desc := "(J)I" } : Jvm.MethodName)) ∈ ww := ww_mem (List.mem_append_right _ (List.mem_append_right _ (List.mem_append_right _ (List.mem_append_right _ (List.mem_append_left _ (List.mem_of_getElem? (i := 104) rfl)))))) rfl
theorem mw_825 : (Jvm.Cond.selects "SpanRulesModel" ({ cls := "SpanRulesModel", name := "offset", desc := "(J)I" } : Jvm.MethodName) ({ cls := "SpanRulesModel", name := "offset", desc := "(J)I" } : Jvm.MethodName)) ∈ ww := ww_mem (List.mem_append_right _ (List.mem_append_right _ (List.mem_append_right _ (List.mem_append_right _ (List.mem_append_left _ (List.mem_of_getElem? (i := 105) rfl)))))) rfl
theorem mw_826 : (Jvm.Cond.code ({ cls := "SpanRulesModel", name := "offset", desc := "(J)I" } : Jvm.MethodName) prog_11_method_5_code (3 : Nat) (Option.some Jvm.ClassFile.FieldType.int)) ∈ ww := ww_mem (List.mem_append_right _ (List.mem_append_right _ (List.mem_append_right _ (List.mem_append_right _ (List.mem_append_left _ (List.mem_of_getElem? (i := 106) rfl)))))) rfl
theorem mw_832 : (Jvm.Cond.methodLink "SpanRulesLaw" (37 : Nat) ({ cls := "SpanRulesModel", name := "lateness", desc := "(J)I" } : Jvm.MethodName)) ∈ ww := ww_mem (List.mem_append_right _ (List.mem_append_right _ (List.mem_append_right _ (List.mem_append_right _ (List.mem_append_left _ (List.mem_of_getElem? (i := 112) rfl)))))) rfl
theorem mw_833 : (Jvm.Cond.instanceMethod ({ cls := "SpanRulesModel", name := "lateness", desc := "(J)I" } : Jvm.MethodName)) ∈ ww := ww_mem (List.mem_append_right _ (List.mem_append_right _ (List.mem_append_right _ (List.mem_append_right _ (List.mem_append_left _ (List.mem_of_getElem? (i := 113) rfl)))))) rfl
theorem mw_834 : (Jvm.Cond.selects "SpanRulesModel" ({ cls := "SpanRulesModel", name := "lateness", desc := "(J)I" } : Jvm.MethodName) ({ cls := "SpanRulesModel", name := "lateness", desc := "(J)I" } : Jvm.MethodName)) ∈ ww := ww_mem (List.mem_append_right _ (List.mem_append_right _ (List.mem_append_right _ (List.mem_append_right _ (List.mem_append_left _ (List.mem_of_getElem? (i := 114) rfl)))))) rfl
theorem mw_835 : (Jvm.Cond.code ({ cls := "SpanRulesModel", name := "lateness", desc := "(J)I" } : Jvm.MethodName) prog_11_method_6_code (3 : Nat) (Option.some Jvm.ClassFile.FieldType.int)) ∈ ww := ww_mem (List.mem_append_right _ (List.mem_append_right _ (List.mem_append_right _ (List.mem_append_right _ (List.mem_append_left _ (List.mem_of_getElem? (i := 115) rfl)))))) rfl
theorem mw_836 : (Jvm.Cond.methodLink "SpanRulesLaw" (42 : Nat) ({ cls := "SpanRulesModel", name := "trigger", desc := "(IZ)I" } : Jvm.MethodName)) ∈ ww := ww_mem (List.mem_append_right _ (List.mem_append_right _ (List.mem_append_right _ (List.mem_append_right _ (List.mem_append_left _ (List.mem_of_getElem? (i := 116) rfl)))))) rfl
theorem mw_837 : (Jvm.Cond.instanceMethod ({ cls := "SpanRulesModel", name := "trigger", desc := "(IZ)I" } : Jvm.MethodName)) ∈ ww := ww_mem (List.mem_append_right _ (List.mem_append_right _ (List.mem_append_right _ (List.mem_append_right _ (List.mem_append_left _ (List.mem_of_getElem? (i := 117) rfl)))))) rfl
theorem mw_838 : (Jvm.Cond.selects "SpanRulesModel" ({ cls := "SpanRulesModel", name := "trigger", desc := "(IZ)I" } : Jvm.MethodName) ({ cls := "SpanRulesModel", name := "trigger", desc := "(IZ)I" } : Jvm.MethodName)) ∈ ww := ww_mem (List.mem_append_right _ (List.mem_append_right _ (List.mem_append_right _ (List.mem_append_right _ (List.mem_append_left _ (List.mem_of_getElem? (i := 118) rfl)))))) rfl
theorem mw_839 : (Jvm.Cond.code ({ cls := "SpanRulesModel", name := "trigger", desc := "(IZ)I" } : Jvm.MethodName) prog_11_method_7_code (3 : Nat) (Option.some Jvm.ClassFile.FieldType.int)) ∈ ww := ww_mem (List.mem_append_right _ (List.mem_append_right _ (List.mem_append_right _ (List.mem_append_right _ (List.mem_append_left _ (List.mem_of_getElem? (i := 119) rfl)))))) rfl
theorem mw_841 : (Jvm.Cond.methodLink "SpanRulesLaw" (47 : Nat) ({ cls := "SpanRulesModel", name := "clears", desc := "(Z)I" } : Jvm.MethodName)) ∈ ww := ww_mem (List.mem_append_right _ (List.mem_append_right _ (List.mem_append_right _ (List.mem_append_right _ (List.mem_append_left _ (List.mem_of_getElem? (i := 121) rfl)))))) rfl
theorem mw_842 : (Jvm.Cond.instanceMethod ({ cls := "SpanRulesModel", name := "clears", desc := "(Z)I" } : Jvm.MethodName)) ∈ ww := ww_mem (List.mem_append_right _ (List.mem_append_right _ (List.mem_append_right _ (List.mem_append_right _ (List.mem_append_left _ (List.mem_of_getElem? (i := 122) rfl)))))) rfl
theorem mw_843 : (Jvm.Cond.selects "SpanRulesModel" ({ cls := "SpanRulesModel", name := "clears", desc := "(Z)I" } : Jvm.MethodName) ({ cls := "SpanRulesModel", name := "clears", desc := "(Z)I" } : Jvm.MethodName)) ∈ ww := ww_mem (List.mem_append_right _ (List.mem_append_right _ (List.mem_append_right _ (List.mem_append_right _ (List.mem_append_left _ (List.mem_of_getElem? (i := 123) rfl)))))) rfl
theorem mw_844 : (Jvm.Cond.code ({ cls := "SpanRulesModel", name := "clears", desc := "(Z)I" } : Jvm.MethodName) prog_11_method_8_code (3 : Nat) (Option.some Jvm.ClassFile.FieldType.int)) ∈ ww := ww_mem (List.mem_append_right _ (List.mem_append_right _ (List.mem_append_right _ (List.mem_append_right _ (List.mem_append_left _ (List.mem_of_getElem? (i := 124) rfl)))))) rfl
theorem mw_845 : (Jvm.Cond.methodLink "SpanRulesLaw" (52 : Nat) ({ cls := "SpanRulesModel", name := "rule", desc := "(I)I" } : Jvm.MethodName)) ∈ ww := ww_mem (List.mem_append_right _ (List.mem_append_right _ (List.mem_append_right _ (List.mem_append_right _ (List.mem_append_left _ (List.mem_of_getElem? (i := 125) rfl)))))) rfl
theorem mw_846 : (Jvm.Cond.instanceMethod ({ cls := "SpanRulesModel", name := "rule", desc := "(I)I" } : Jvm.MethodName)) ∈ ww := ww_mem (List.mem_append_right _ (List.mem_append_right _ (List.mem_append_right _ (List.mem_append_right _ (List.mem_append_left _ (List.mem_of_getElem? (i := 126) rfl)))))) rfl
theorem mw_847 : (Jvm.Cond.selects "SpanRulesModel" ({ cls := "SpanRulesModel", name := "rule", desc := "(I)I" } : Jvm.MethodName) ({ cls := "SpanRulesModel", name := "rule", desc := "(I)I" } : Jvm.MethodName)) ∈ ww := ww_mem (List.mem_append_right _ (List.mem_append_right _ (List.mem_append_right _ (List.mem_append_right _ (List.mem_append_left _ (List.mem_of_getElem? (i := 127) rfl)))))) rfl
theorem mw_848 : (Jvm.Cond.code ({ cls := "SpanRulesModel", name := "rule", desc := "(I)I" } : Jvm.MethodName) prog_11_method_9_code (3 : Nat) (Option.some Jvm.ClassFile.FieldType.int)) ∈ ww := ww_mem (List.mem_append_right _ (List.mem_append_right _ (List.mem_append_right _ (List.mem_append_right _ (List.mem_append_left _ (List.mem_of_getElem? (i := 128) rfl)))))) rfl
theorem mw_850 : (Jvm.Cond.methodLink "SpanRulesLaw" (57 : Nat) ({ cls := "SpanRulesModel", name := "forbid", desc := "(IJ)I" } : Jvm.MethodName)) ∈ ww := ww_mem (List.mem_append_right _ (List.mem_append_right _ (List.mem_append_right _ (List.mem_append_right _ (List.mem_append_left _ (List.mem_of_getElem? (i := 130) rfl)))))) rfl
theorem mw_851 : (Jvm.Cond.instanceMethod ({ cls := "SpanRulesModel", name := "forbid", desc := "(IJ)I" } : Jvm.MethodName)) ∈ ww := ww_mem (List.mem_append_right _ (List.mem_append_right _ (List.mem_append_right _ (List.mem_append_right _ (List.mem_append_left _ (List.mem_of_getElem? (i := 131) rfl)))))) rfl
theorem mw_852 : (Jvm.Cond.selects "SpanRulesModel" ({ cls := "SpanRulesModel", name := "forbid", desc := "(IJ)I" } : Jvm.MethodName) ({ cls := "SpanRulesModel", name := "forbid", desc := "(IJ)I" } : Jvm.MethodName)) ∈ ww := ww_mem (List.mem_append_right _ (List.mem_append_right _ (List.mem_append_right _ (List.mem_append_right _ (List.mem_append_left _ (List.mem_of_getElem? (i := 132) rfl)))))) rfl
theorem mw_853 : (Jvm.Cond.code ({ cls := "SpanRulesModel", name := "forbid", desc := "(IJ)I" } : Jvm.MethodName) prog_11_method_11_code (4 : Nat) (Option.some Jvm.ClassFile.FieldType.int)) ∈ ww := ww_mem (List.mem_append_right _ (List.mem_append_right _ (List.mem_append_right _ (List.mem_append_right _ (List.mem_append_left _ (List.mem_of_getElem? (i := 133) rfl)))))) rfl
theorem mw_858 : (Jvm.Cond.methodLink "SpanRulesLaw" (91 : Nat) ({ cls := "SpanRulesModel", name := "month", desc := "(I)I" } : Jvm.MethodName)) ∈ ww := ww_mem (List.mem_append_right _ (List.mem_append_right _ (List.mem_append_right _ (List.mem_append_right _ (List.mem_append_left _ (List.mem_of_getElem? (i := 138) rfl)))))) rfl
theorem mw_859 : (Jvm.Cond.instanceMethod ({ cls := "SpanRulesModel", name := "month", desc := "(I)I" } : Jvm.MethodName)) ∈ ww := ww_mem (List.mem_append_right _ (List.mem_append_right _ (List.mem_append_right _ (List.mem_append_right _ (List.mem_append_left _ (List.mem_of_getElem? (i := 139) rfl)))))) rfl
theorem mw_860 : (Jvm.Cond.selects "SpanRulesModel" ({ cls := "SpanRulesModel", name := "month", desc := "(I)I" } : Jvm.MethodName) ({ cls := "SpanRulesModel", name := "month", desc := "(I)I" } : Jvm.MethodName)) ∈ ww := ww_mem (List.mem_append_right _ (List.mem_append_right _ (List.mem_append_right _ (List.mem_append_right _ (List.mem_append_left _ (List.mem_of_getElem? (i := 140) rfl)))))) rfl
theorem mw_861 : (Jvm.Cond.code ({ cls := "SpanRulesModel", name := "month", desc := "(I)I" } : Jvm.MethodName) prog_11_method_18_code (2 : Nat) (Option.some Jvm.ClassFile.FieldType.int)) ∈ ww := ww_mem (List.mem_append_right _ (List.mem_append_right _ (List.mem_append_right _ (List.mem_append_right _ (List.mem_append_left _ (List.mem_of_getElem? (i := 141) rfl)))))) rfl
theorem mw_888 : (Jvm.Cond.methodLink "SpanRulesLaw" (61 : Nat) ({ cls := "SpanRulesModel", name := "row", desc := "(IJJ)I" } : Jvm.MethodName)) ∈ ww := ww_mem (List.mem_append_right _ (List.mem_append_right _ (List.mem_append_right _ (List.mem_append_right _ (List.mem_append_left _ (List.mem_of_getElem? (i := 168) rfl)))))) rfl
theorem mw_889 : (Jvm.Cond.instanceMethod ({ cls := "SpanRulesModel", name := "row", desc := "(IJJ)I" } : Jvm.MethodName)) ∈ ww := ww_mem (List.mem_append_right _ (List.mem_append_right _ (List.mem_append_right _ (List.mem_append_right _ (List.mem_append_left _ (List.mem_of_getElem? (i := 169) rfl)))))) rfl
theorem mw_890 : (Jvm.Cond.selects "SpanRulesModel" ({ cls := "SpanRulesModel", name := "row", desc := "(IJJ)I" } : Jvm.MethodName) ({ cls := "SpanRulesModel", name := "row", desc := "(IJJ)I" } : Jvm.MethodName)) ∈ ww := ww_mem (List.mem_append_right _ (List.mem_append_right _ (List.mem_append_right _ (List.mem_append_right _ (List.mem_append_left _ (List.mem_of_getElem? (i := 170) rfl)))))) rfl
theorem mw_891 : (Jvm.Cond.code ({ cls := "SpanRulesModel", name := "row", desc := "(IJJ)I" } : Jvm.MethodName) prog_11_method_31_code (8 : Nat) (Option.some Jvm.ClassFile.FieldType.int)) ∈ ww := ww_mem (List.mem_append_right _ (List.mem_append_right _ (List.mem_append_right _ (List.mem_append_right _ (List.mem_append_left _ (List.mem_of_getElem? (i := 171) rfl)))))) rfl
theorem mw_968 : (Jvm.Cond.methodLink "SpanRulesLaw" (69 : Nat) ({ cls := "SpanRulesModel", name := "mark", desc := "(J)I" } : Jvm.MethodName)) ∈ ww := ww_mem (List.mem_append_right _ (List.mem_append_right _ (List.mem_append_right _ (List.mem_append_right _ (List.mem_append_right _ (List.mem_of_getElem? (i := 8) rfl)))))) rfl
theorem mw_969 : (Jvm.Cond.instanceMethod ({ cls := "SpanRulesModel", name := "mark", desc := "(J)I" } : Jvm.MethodName)) ∈ ww := ww_mem (List.mem_append_right _ (List.mem_append_right _ (List.mem_append_right _ (List.mem_append_right _ (List.mem_append_right _ (List.mem_of_getElem? (i := 9) rfl)))))) rfl
theorem mw_970 : (Jvm.Cond.selects "SpanRulesModel" ({ cls := "SpanRulesModel", name := "mark", desc := "(J)I" } : Jvm.MethodName) ({ cls := "SpanRulesModel", name := "mark", desc := "(J)I" } : Jvm.MethodName)) ∈ ww := ww_mem (List.mem_append_right _ (List.mem_append_right _ (List.mem_append_right _ (List.mem_append_right _ (List.mem_append_right _ (List.mem_of_getElem? (i := 10) rfl)))))) rfl
theorem mw_971 : (Jvm.Cond.code ({ cls := "SpanRulesModel", name := "mark", desc := "(J)I" } : Jvm.MethodName) prog_11_method_38_code (8 : Nat) (Option.some Jvm.ClassFile.FieldType.int)) ∈ ww := ww_mem (List.mem_append_right _ (List.mem_append_right _ (List.mem_append_right _ (List.mem_append_right _ (List.mem_append_right _ (List.mem_of_getElem? (i := 11) rfl)))))) rfl
theorem mw_985 : (Jvm.Cond.methodLink "SpanRulesLaw" (73 : Nat) ({ cls := "SpanRulesModel", name := "count", desc := "(I)I" } : Jvm.MethodName)) ∈ ww := ww_mem (List.mem_append_right _ (List.mem_append_right _ (List.mem_append_right _ (List.mem_append_right _ (List.mem_append_right _ (List.mem_of_getElem? (i := 25) rfl)))))) rfl
theorem mw_986 : (Jvm.Cond.instanceMethod ({ cls := "SpanRulesModel", name := "count", desc := "(I)I" } : Jvm.MethodName)) ∈ ww := ww_mem (List.mem_append_right _ (List.mem_append_right _ (List.mem_append_right _ (List.mem_append_right _ (List.mem_append_right _ (List.mem_of_getElem? (i := 26) rfl)))))) rfl
theorem mw_987 : (Jvm.Cond.selects "SpanRulesModel" ({ cls := "SpanRulesModel", name := "count", desc := "(I)I" } : Jvm.MethodName) ({ cls := "SpanRulesModel", name := "count", desc := "(I)I" } : Jvm.MethodName)) ∈ ww := ww_mem (List.mem_append_right _ (List.mem_append_right _ (List.mem_append_right _ (List.mem_append_right _ (List.mem_append_right _ (List.mem_of_getElem? (i := 27) rfl)))))) rfl
theorem mw_988 : (Jvm.Cond.code ({ cls := "SpanRulesModel", name := "count", desc := "(I)I" } : Jvm.MethodName) prog_11_method_41_code (2 : Nat) (Option.some Jvm.ClassFile.FieldType.int)) ∈ ww := ww_mem (List.mem_append_right _ (List.mem_append_right _ (List.mem_append_right _ (List.mem_append_right _ (List.mem_append_right _ (List.mem_of_getElem? (i := 28) rfl)))))) rfl
theorem mw_989 : (Jvm.Cond.methodLink "SpanRulesLaw" (78 : Nat) ({ cls := "SpanRulesModel", name := "fired", desc := "(II)J" } : Jvm.MethodName)) ∈ ww := ww_mem (List.mem_append_right _ (List.mem_append_right _ (List.mem_append_right _ (List.mem_append_right _ (List.mem_append_right _ (List.mem_of_getElem? (i := 29) rfl)))))) rfl
theorem mw_990 : (Jvm.Cond.instanceMethod ({ cls := "SpanRulesModel", name := "fired", desc := "(II)J" } : Jvm.MethodName)) ∈ ww := ww_mem (List.mem_append_right _ (List.mem_append_right _ (List.mem_append_right _ (List.mem_append_right _ (List.mem_append_right _ (List.mem_of_getElem? (i := 30) rfl)))))) rfl
theorem mw_991 : (Jvm.Cond.selects "SpanRulesModel" ({ cls := "SpanRulesModel", name := "fired", desc := "(II)J" } : Jvm.MethodName) ({ cls := "SpanRulesModel", name := "fired", desc := "(II)J" } : Jvm.MethodName)) ∈ ww := ww_mem (List.mem_append_right _ (List.mem_append_right _ (List.mem_append_right _ (List.mem_append_right _ (List.mem_append_right _ (List.mem_of_getElem? (i := 31) rfl)))))) rfl
theorem mw_992 : (Jvm.Cond.code ({ cls := "SpanRulesModel", name := "fired", desc := "(II)J" } : Jvm.MethodName) prog_11_method_42_code (3 : Nat) (Option.some Jvm.ClassFile.FieldType.long)) ∈ ww := ww_mem (List.mem_append_right _ (List.mem_append_right _ (List.mem_append_right _ (List.mem_append_right _ (List.mem_append_right _ (List.mem_of_getElem? (i := 32) rfl)))))) rfl
theorem mw_995 : (Jvm.Cond.methodLink "SpanRulesLaw" (82 : Nat) ({ cls := "SpanRulesModel", name := "spans", desc := "(I)I" } : Jvm.MethodName)) ∈ ww := ww_mem (List.mem_append_right _ (List.mem_append_right _ (List.mem_append_right _ (List.mem_append_right _ (List.mem_append_right _ (List.mem_of_getElem? (i := 35) rfl)))))) rfl
theorem mw_996 : (Jvm.Cond.instanceMethod ({ cls := "SpanRulesModel", name := "spans", desc := "(I)I" } : Jvm.MethodName)) ∈ ww := ww_mem (List.mem_append_right _ (List.mem_append_right _ (List.mem_append_right _ (List.mem_append_right _ (List.mem_append_right _ (List.mem_of_getElem? (i := 36) rfl)))))) rfl
theorem mw_997 : (Jvm.Cond.selects "SpanRulesModel" ({ cls := "SpanRulesModel", name := "spans", desc := "(I)I" } : Jvm.MethodName) ({ cls := "SpanRulesModel", name := "spans", desc := "(I)I" } : Jvm.MethodName)) ∈ ww := ww_mem (List.mem_append_right _ (List.mem_append_right _ (List.mem_append_right _ (List.mem_append_right _ (List.mem_append_right _ (List.mem_of_getElem? (i := 37) rfl)))))) rfl
theorem mw_998 : (Jvm.Cond.code ({ cls := "SpanRulesModel", name := "spans", desc := "(I)I" } : Jvm.MethodName) prog_11_method_43_code (4 : Nat) (Option.some Jvm.ClassFile.FieldType.int)) ∈ ww := ww_mem (List.mem_append_right _ (List.mem_append_right _ (List.mem_append_right _ (List.mem_append_right _ (List.mem_append_right _ (List.mem_of_getElem? (i := 38) rfl)))))) rfl
theorem mw_999 : (Jvm.Cond.methodLink "SpanRulesLaw" (87 : Nat) ({ cls := "SpanRulesModel", name := "span", desc := "(III)J" } : Jvm.MethodName)) ∈ ww := ww_mem (List.mem_append_right _ (List.mem_append_right _ (List.mem_append_right _ (List.mem_append_right _ (List.mem_append_right _ (List.mem_of_getElem? (i := 39) rfl)))))) rfl
theorem mw_1000 : (Jvm.Cond.instanceMethod ({ cls := "SpanRulesModel", name := "span", desc := "(III)J" } : Jvm.MethodName)) ∈ ww := ww_mem (List.mem_append_right _ (List.mem_append_right _ (List.mem_append_right _ (List.mem_append_right _ (List.mem_append_right _ (List.mem_of_getElem? (i := 40) rfl)))))) rfl
theorem mw_1001 : (Jvm.Cond.selects "SpanRulesModel" ({ cls := "SpanRulesModel", name := "span", desc := "(III)J" } : Jvm.MethodName) ({ cls := "SpanRulesModel", name := "span", desc := "(III)J" } : Jvm.MethodName)) ∈ ww := ww_mem (List.mem_append_right _ (List.mem_append_right _ (List.mem_append_right _ (List.mem_append_right _ (List.mem_append_right _ (List.mem_of_getElem? (i := 41) rfl)))))) rfl
theorem mw_1002 : (Jvm.Cond.code ({ cls := "SpanRulesModel", name := "span", desc := "(III)J" } : Jvm.MethodName) prog_11_method_44_code (8 : Nat) (Option.some Jvm.ClassFile.FieldType.long)) ∈ ww := ww_mem (List.mem_append_right _ (List.mem_append_right _ (List.mem_append_right _ (List.mem_append_right _ (List.mem_append_right _ (List.mem_of_getElem? (i := 42) rfl)))))) rfl
theorem mw_1003 : (Jvm.Cond.constantLong "SpanRulesLaw" (27 : Nat) (4294967295 : Int64)) ∈ ww := ww_mem (List.mem_append_right _ (List.mem_append_right _ (List.mem_append_right _ (List.mem_append_right _ (List.mem_append_right _ (List.mem_of_getElem? (i := 43) rfl)))))) rfl
abbrev b_LW_cell : ByteArray := method_2_code
def y_LW_cell : MethodName := ⟨R_LW, "cell", "([II)I"⟩
def w_LW_cell : List Cond := .code y_LW_cell b_LW_cell 2 (some .int) :: ww
abbrev b_LW_row : ByteArray := method_3_code
def y_LW_row : MethodName := ⟨R_LW, "row", "(LSpanRules;IJJ[J)I"⟩
def h_LW_row : List (Nat × Nat × Nat × Nat) := [(0, 13, 16, 13)]
def w_LW_row : List Cond := .codeWith y_LW_row b_LW_row 8 (some .int) h_LW_row :: ww
theorem k_LW_29 {R : Room} {s : State} {args : Array Value} {cd : Cond} (hts : ∀ w ∈ cd :: ww, w.before args s = true) (hR : 1 + 1 ≤ R.frames ∧ 8 + (3 + 11) + 25 ≤ R.locals) : CallW R s args R_LW R_SR 29 y_SR_offset b_SR_offset 3 (some .int) w_SR_offset { frames := 1, cells := 0, slots := 0, locals := 25 } 0 0 1 := cwV 1 hts (gi_V mw_275 mw_276 mw_277 mw_1 mw_278) rfl rfl rfl (by decide +kernel) hR
theorem k_LW_33 {R : Room} {s : State} {args : Array Value} {cd : Cond} (hts : ∀ w ∈ cd :: ww, w.before args s = true) (hR : 1 + 1 ≤ R.frames ∧ 8 + (3 + 11) + 25 ≤ R.locals) : CallW R s args R_LW R_MO 33 y_MO_offset b_MO_offset 3 (some .int) w_MO_offset { frames := 1, cells := 0, slots := 0, locals := 25 } 0 0 1 := cwV 1 hts (gi_V mw_823 mw_824 mw_825 mw_9 mw_826) rfl rfl rfl (by decide +kernel) hR
theorem k_LW_34 {R : Room} {s : State} {args : Array Value} {cd : Cond} (hts : ∀ w ∈ cd :: ww, w.before args s = true) (hR : 1 + 1 ≤ R.frames ∧ 8 + (3 + 11) + 25 ≤ R.locals) : CallW R s args R_LW R_SR 34 y_SR_lateness b_SR_lateness 3 (some .int) w_SR_lateness { frames := 1, cells := 0, slots := 0, locals := 25 } 0 0 1 := cwV 1 hts (gi_V mw_284 mw_285 mw_286 mw_1 mw_287) rfl rfl rfl (by decide +kernel) hR
theorem k_LW_37 {R : Room} {s : State} {args : Array Value} {cd : Cond} (hts : ∀ w ∈ cd :: ww, w.before args s = true) (hR : 1 + 1 ≤ R.frames ∧ 8 + (3 + 11) + 25 ≤ R.locals) : CallW R s args R_LW R_MO 37 y_MO_lateness b_MO_lateness 3 (some .int) w_MO_lateness { frames := 1, cells := 0, slots := 0, locals := 25 } 0 0 1 := cwV 1 hts (gi_V mw_832 mw_833 mw_834 mw_9 mw_835) rfl rfl rfl (by decide +kernel) hR
theorem k_LW_38 {R : Room} {s : State} {args : Array Value} {cd : Cond} (hts : ∀ w ∈ cd :: ww, w.before args s = true) (hR : 1 + 1 ≤ R.frames ∧ 8 + (3 + 11) + 25 ≤ R.locals) : CallW R s args R_LW R_SR 38 y_SR_trigger b_SR_trigger 3 (some .int) w_SR_trigger { frames := 1, cells := 0, slots := 0, locals := 25 } 0 0 2 := cwV 2 hts (gi_V mw_288 mw_289 mw_290 mw_1 mw_291) rfl rfl rfl (by decide +kernel) hR
theorem k_LW_42 {R : Room} {s : State} {args : Array Value} {cd : Cond} (hts : ∀ w ∈ cd :: ww, w.before args s = true) (hR : 1 + 1 ≤ R.frames ∧ 8 + (3 + 11) + 25 ≤ R.locals) : CallW R s args R_LW R_MO 42 y_MO_trigger b_MO_trigger 3 (some .int) w_MO_trigger { frames := 1, cells := 0, slots := 0, locals := 25 } 0 0 2 := cwV 2 hts (gi_V mw_836 mw_837 mw_838 mw_9 mw_839) rfl rfl rfl (by decide +kernel) hR
theorem k_LW_43 {R : Room} {s : State} {args : Array Value} {cd : Cond} (hts : ∀ w ∈ cd :: ww, w.before args s = true) (hR : 0 + 1 ≤ R.frames ∧ 8 + (2 + 11) + 0 ≤ R.locals) : CallW R s args R_LW R_SR 43 y_SR_clears b_SR_clears 2 (some .int) w_SR_clears { frames := 0, cells := 0, slots := 0, locals := 0 } 0 0 1 := cwV 1 hts (gi_V mw_293 mw_294 mw_295 mw_1 mw_296) rfl rfl rfl (by decide +kernel) hR
theorem k_LW_47 {R : Room} {s : State} {args : Array Value} {cd : Cond} (hts : ∀ w ∈ cd :: ww, w.before args s = true) (hR : 0 + 1 ≤ R.frames ∧ 8 + (3 + 11) + 0 ≤ R.locals) : CallW R s args R_LW R_MO 47 y_MO_clears b_MO_clears 3 (some .int) w_MO_clears { frames := 0, cells := 0, slots := 0, locals := 0 } 0 0 1 := cwV 1 hts (gi_V mw_841 mw_842 mw_843 mw_9 mw_844) rfl rfl rfl (by decide +kernel) hR
theorem k_LW_48 {R : Room} {s : State} {args : Array Value} {cd : Cond} (hts : ∀ w ∈ cd :: ww, w.before args s = true) (hR : 1 + 1 ≤ R.frames ∧ 8 + (3 + 11) + 25 ≤ R.locals) : CallW R s args R_LW R_SR 48 y_SR_rule b_SR_rule 3 (some .int) w_SR_rule { frames := 1, cells := 0, slots := 0, locals := 25 } 0 0 1 := cwV 1 hts (gi_V mw_297 mw_298 mw_299 mw_1 mw_300) rfl rfl rfl (by decide +kernel) hR
theorem k_LW_52 {R : Room} {s : State} {args : Array Value} {cd : Cond} (hts : ∀ w ∈ cd :: ww, w.before args s = true) (hR : 1 + 1 ≤ R.frames ∧ 8 + (3 + 11) + 25 ≤ R.locals) : CallW R s args R_LW R_MO 52 y_MO_rule b_MO_rule 3 (some .int) w_MO_rule { frames := 1, cells := 0, slots := 0, locals := 25 } 0 0 1 := cwV 1 hts (gi_V mw_845 mw_846 mw_847 mw_9 mw_848) rfl rfl rfl (by decide +kernel) hR
theorem k_LW_53 {R : Room} {s : State} {args : Array Value} {cd : Cond} (hts : ∀ w ∈ cd :: ww, w.before args s = true) (hR : 2 + 1 ≤ R.frames ∧ 8 + (4 + 11) + 47 ≤ R.locals) : CallW R s args R_LW R_SR 53 y_SR_forbid b_SR_forbid 4 (some .int) w_SR_forbid { frames := 2, cells := 0, slots := 0, locals := 47 } 0 0 2 := cwV 2 hts (gi_V mw_302 mw_303 mw_304 mw_1 mw_305) rfl rfl rfl (by decide +kernel) hR
theorem k_LW_57 {R : Room} {s : State} {args : Array Value} {cd : Cond} (hts : ∀ w ∈ cd :: ww, w.before args s = true) (hR : 1 + 1 ≤ R.frames ∧ 8 + (4 + 11) + 25 ≤ R.locals) : CallW R s args R_LW R_MO 57 y_MO_forbid b_MO_forbid 4 (some .int) w_MO_forbid { frames := 1, cells := 0, slots := 0, locals := 25 } 0 0 2 := cwV 2 hts (gi_V mw_850 mw_851 mw_852 mw_9 mw_853) rfl rfl rfl (by decide +kernel) hR
theorem k_LW_61 {R : Room} {s : State} {args : Array Value} {cd : Cond} (hts : ∀ w ∈ cd :: ww, w.before args s = true) (hR : 5 + 1 ≤ R.frames ∧ 8 + (8 + 11) + 130 ≤ R.locals) : CallW R s args R_LW R_MO 61 y_MO_row b_MO_row 8 (some .int) w_MO_row { frames := 5, cells := 0, slots := 0, locals := 130 } 0 0 3 := cwV 3 hts (gi_V mw_888 mw_889 mw_890 mw_9 mw_891) rfl rfl rfl (by decide +kernel) hR
theorem k_LW_62 {R : Room} {s : State} {args : Array Value} {cd : Cond} (hts : ∀ w ∈ cd :: ww, w.before args s = true) (hR : 0 + 1 ≤ R.frames ∧ 8 + (1 + 11) + 0 ≤ R.locals) : CallW R s args R_LW R_MO 62 y_MO_thrown b_MO_thrown 1 (some .int) w_MO_thrown { frames := 0, cells := 0, slots := 0, locals := 0 } 0 0 0 := cwV 0 hts (gi_V mw_819 mw_820 mw_821 mw_9 mw_822) rfl rfl rfl (by decide +kernel) hR
theorem k_LW_66 {R : Room} {s : State} {args : Array Value} {cd : Cond} (hts : ∀ w ∈ cd :: ww, w.before args s = true) (hR : 5 + 1 ≤ R.frames ∧ 8 + (3 + 11) + 118 ≤ R.locals) : CallW R s args R_LW R_SR 66 y_SR_mark b_SR_mark 3 (some .int) w_SR_mark { frames := 5, cells := 0, slots := 0, locals := 118 } 0 0 1 := cwV 1 hts (gi_V mw_314 mw_315 mw_316 mw_1 mw_317) rfl rfl rfl (by decide +kernel) hR
theorem k_LW_69 {R : Room} {s : State} {args : Array Value} {cd : Cond} (hts : ∀ w ∈ cd :: ww, w.before args s = true) (hR : 3 + 1 ≤ R.frames ∧ 8 + (8 + 11) + 70 ≤ R.locals) : CallW R s args R_LW R_MO 69 y_MO_mark b_MO_mark 8 (some .int) w_MO_mark { frames := 3, cells := 0, slots := 0, locals := 70 } 0 0 1 := cwV 1 hts (gi_V mw_968 mw_969 mw_970 mw_9 mw_971) rfl rfl rfl (by decide +kernel) hR
theorem k_LW_70 {R : Room} {s : State} {args : Array Value} {cd : Cond} (hts : ∀ w ∈ cd :: ww, w.before args s = true) (hR : 2 + 1 ≤ R.frames ∧ 8 + (2 + 11) + 44 ≤ R.locals) : CallW R s args R_LW R_SR 70 y_SR_count b_SR_count 2 (some .int) w_SR_count { frames := 2, cells := 0, slots := 0, locals := 44 } 0 0 1 := cwV 1 hts (gi_V mw_411 mw_412 mw_413 mw_1 mw_414) rfl rfl rfl (by decide +kernel) hR
theorem k_LW_73 {R : Room} {s : State} {args : Array Value} {cd : Cond} (hts : ∀ w ∈ cd :: ww, w.before args s = true) (hR : 0 + 1 ≤ R.frames ∧ 8 + (2 + 11) + 0 ≤ R.locals) : CallW R s args R_LW R_MO 73 y_MO_count b_MO_count 2 (some .int) w_MO_count { frames := 0, cells := 0, slots := 0, locals := 0 } 0 0 1 := cwV 1 hts (gi_V mw_985 mw_986 mw_987 mw_9 mw_988) rfl rfl rfl (by decide +kernel) hR
theorem k_LW_74 {R : Room} {s : State} {args : Array Value} {cd : Cond} (hts : ∀ w ∈ cd :: ww, w.before args s = true) (hR : 3 + 1 ≤ R.frames ∧ 8 + (3 + 11) + 66 ≤ R.locals) : CallW R s args R_LW R_SR 74 y_SR_fired b_SR_fired 3 (some .long) w_SR_fired { frames := 3, cells := 0, slots := 0, locals := 66 } 0 0 2 := cwV 2 hts (gi_V mw_422 mw_423 mw_424 mw_1 mw_425) rfl rfl rfl (by decide +kernel) hR
theorem k_LW_78 {R : Room} {s : State} {args : Array Value} {cd : Cond} (hts : ∀ w ∈ cd :: ww, w.before args s = true) (hR : 0 + 1 ≤ R.frames ∧ 8 + (3 + 11) + 0 ≤ R.locals) : CallW R s args R_LW R_MO 78 y_MO_fired b_MO_fired 3 (some .long) w_MO_fired { frames := 0, cells := 0, slots := 0, locals := 0 } 0 0 2 := cwV 2 hts (gi_V mw_989 mw_990 mw_991 mw_9 mw_992) rfl rfl rfl (by decide +kernel) hR
theorem k_LW_79 {R : Room} {s : State} {args : Array Value} {cd : Cond} (hts : ∀ w ∈ cd :: ww, w.before args s = true) (hR : 2 + 1 ≤ R.frames ∧ 8 + (2 + 11) + 45 ≤ R.locals) : CallW R s args R_LW R_SR 79 y_SR_spans b_SR_spans 2 (some .int) w_SR_spans { frames := 2, cells := 0, slots := 0, locals := 45 } 0 0 1 := cwV 1 hts (gi_V mw_434 mw_435 mw_436 mw_1 mw_437) rfl rfl rfl (by decide +kernel) hR
theorem k_LW_82 {R : Room} {s : State} {args : Array Value} {cd : Cond} (hts : ∀ w ∈ cd :: ww, w.before args s = true) (hR : 1 + 1 ≤ R.frames ∧ 8 + (4 + 11) + 25 ≤ R.locals) : CallW R s args R_LW R_MO 82 y_MO_spans b_MO_spans 4 (some .int) w_MO_spans { frames := 1, cells := 0, slots := 0, locals := 25 } 0 0 1 := cwV 1 hts (gi_V mw_995 mw_996 mw_997 mw_9 mw_998) rfl rfl rfl (by decide +kernel) hR
theorem k_LW_83 {R : Room} {s : State} {args : Array Value} {cd : Cond} (hts : ∀ w ∈ cd :: ww, w.before args s = true) (hR : 3 + 1 ≤ R.frames ∧ 8 + (5 + 11) + 70 ≤ R.locals) : CallW R s args R_LW R_SR 83 y_SR_span b_SR_span 5 (some .long) w_SR_span { frames := 3, cells := 0, slots := 0, locals := 70 } 0 0 3 := cwV 3 hts (gi_V mw_446 mw_447 mw_448 mw_1 mw_449) rfl rfl rfl (by decide +kernel) hR
theorem k_LW_87 {R : Room} {s : State} {args : Array Value} {cd : Cond} (hts : ∀ w ∈ cd :: ww, w.before args s = true) (hR : 2 + 1 ≤ R.frames ∧ 8 + (8 + 11) + 45 ≤ R.locals) : CallW R s args R_LW R_MO 87 y_MO_span b_MO_span 8 (some .long) w_MO_span { frames := 2, cells := 0, slots := 0, locals := 45 } 0 0 3 := cwV 3 hts (gi_V mw_999 mw_1000 mw_1001 mw_9 mw_1002) rfl rfl rfl (by decide +kernel) hR
theorem k_LW_88 {R : Room} {s : State} {args : Array Value} {cd : Cond} (hts : ∀ w ∈ cd :: ww, w.before args s = true) (hR : 2 + 1 ≤ R.frames ∧ 8 + (2 + 11) + 54 ≤ R.locals) : CallW R s args R_LW R_SR 88 y_SR_month b_SR_month 2 (some .int) w_SR_month { frames := 2, cells := 0, slots := 0, locals := 54 } 0 0 1 := cwV 1 hts (gi_V mw_455 mw_456 mw_457 mw_1 mw_458) rfl rfl rfl (by decide +kernel) hR
theorem k_LW_91 {R : Room} {s : State} {args : Array Value} {cd : Cond} (hts : ∀ w ∈ cd :: ww, w.before args s = true) (hR : 3 + 1 ≤ R.frames ∧ 8 + (2 + 11) + 75 ≤ R.locals) : CallW R s args R_LW R_MO 91 y_MO_month b_MO_month 2 (some .int) w_MO_month { frames := 3, cells := 0, slots := 0, locals := 75 } 0 0 1 := cwV 1 hts (gi_V mw_858 mw_859 mw_860 mw_9 mw_861) rfl rfl rfl (by decide +kernel) hR
theorem k_LW_7 {R : Room} {s : State} {args : Array Value} {cd : Cond} (hts : ∀ w ∈ cd :: ww, w.before args s = true) (hR : 6 + 1 ≤ R.frames ∧ 8 + (8 + 11) + 154 ≤ R.locals) : CallW R s args R_LW R_SR 7 y_SR_row b_SR_row 8 (some .int) w_SR_row { frames := 6, cells := 0, slots := 0, locals := 154 } 0 0 3 := cwV 3 hts (gi_V mw_483 mw_484 mw_485 mw_1 mw_486) rfl rfl rfl (by decide +kernel) hR
theorem k_LW_15 {R : Room} {s : State} {args : Array Value} {cd : Cond} (hts : ∀ w ∈ cd :: ww, w.before args s = true) (hR : 0 + 1 ≤ R.frames ∧ 8 + (2 + 11) + 0 ≤ R.locals) : CallB R s args R_LW 15 y_LW_cell b_LW_cell 2 (some .int) w_LW_cell { frames := 0, cells := 0, slots := 0, locals := 0 } 0 0 2 ∧ (Cond.static y_LW_cell).before args s = true := va_cwS 2 hts (gi_S mw_476 mw_477 mw_0 mw_478) rfl rfl rfl (by decide +kernel) hR
theorem d_LW_cell_0 : decode b_LW_cell 0 = .ok (.iload_n 1, 1) := by decide +kernel
theorem d_LW_cell_1 : decode b_LW_cell 1 = .ok (.aload_n 0, 1) := by decide +kernel
theorem d_LW_cell_2 : decode b_LW_cell 2 = .ok (.arraylength, 1) := by decide +kernel
theorem d_LW_cell_3 : decode b_LW_cell 3 = .ok (.if_icmp .ge 9, 3) := by decide +kernel
theorem d_LW_cell_6 : decode b_LW_cell 6 = .ok (.aload_n 0, 1) := by decide +kernel
theorem d_LW_cell_7 : decode b_LW_cell 7 = .ok (.iload_n 1, 1) := by decide +kernel
theorem d_LW_cell_8 : decode b_LW_cell 8 = .ok (.iaload, 1) := by decide +kernel
theorem d_LW_cell_9 : decode b_LW_cell 9 = .ok (.goto 4, 3) := by decide +kernel
theorem d_LW_cell_12 : decode b_LW_cell 12 = .ok (.iconst 0, 1) := by decide +kernel
theorem d_LW_cell_13 : decode b_LW_cell 13 = .ok (.ireturn, 1) := by decide +kernel
theorem d_LW_row_0 : decode b_LW_row 0 = .ok (.aload 6, 2) := by decide +kernel
theorem d_LW_row_2 : decode b_LW_row 2 = .ok (.iconst 0, 1) := by decide +kernel
theorem d_LW_row_3 : decode b_LW_row 3 = .ok (.aload_n 0, 1) := by decide +kernel
theorem d_LW_row_4 : decode b_LW_row 4 = .ok (.iload_n 1, 1) := by decide +kernel
theorem d_LW_row_5 : decode b_LW_row 5 = .ok (.lload_n 2, 1) := by decide +kernel
theorem d_LW_row_6 : decode b_LW_row 6 = .ok (.lload 4, 2) := by decide +kernel
theorem d_LW_row_8 : decode b_LW_row 8 = .ok (.invokevirtual 7, 3) := by decide +kernel
theorem d_LW_row_11 : decode b_LW_row 11 = .ok (.i2l, 1) := by decide +kernel
theorem d_LW_row_12 : decode b_LW_row 12 = .ok (.lastore, 1) := by decide +kernel
theorem d_LW_row_13 : decode b_LW_row 13 = .ok (.goto 7, 3) := by decide +kernel
theorem d_LW_row_16 : decode b_LW_row 16 = .ok (.astore 7, 2) := by decide +kernel
theorem d_LW_row_18 : decode b_LW_row 18 = .ok (.iconst 1, 1) := by decide +kernel
theorem d_LW_row_19 : decode b_LW_row 19 = .ok (.ireturn, 1) := by decide +kernel
theorem d_LW_row_20 : decode b_LW_row 20 = .ok (.iconst 0, 1) := by decide +kernel
theorem d_LW_row_21 : decode b_LW_row 21 = .ok (.ireturn, 1) := by decide +kernel
theorem d_LW_law_0 : decode code 0 = .ok (.new 8, 3) := by decide +kernel
theorem d_LW_law_3 : decode code 3 = .ok (.dup, 1) := by decide +kernel
theorem d_LW_law_4 : decode code 4 = .ok (.aload_n 0, 1) := by decide +kernel
theorem d_LW_law_5 : decode code 5 = .ok (.iconst 0, 1) := by decide +kernel
theorem d_LW_law_6 : decode code 6 = .ok (.invokestatic 15, 3) := by decide +kernel
theorem d_LW_law_9 : decode code 9 = .ok (.aload_n 0, 1) := by decide +kernel
theorem d_LW_law_10 : decode code 10 = .ok (.iconst 1, 1) := by decide +kernel
theorem d_LW_law_11 : decode code 11 = .ok (.invokestatic 15, 3) := by decide +kernel
theorem d_LW_law_14 : decode code 14 = .ok (.aload_n 0, 1) := by decide +kernel
theorem d_LW_law_15 : decode code 15 = .ok (.iconst 2, 1) := by decide +kernel
theorem d_LW_law_16 : decode code 16 = .ok (.invokestatic 15, 3) := by decide +kernel
theorem d_LW_law_19 : decode code 19 = .ok (.invokespecial 21, 3) := by decide +kernel
theorem d_LW_law_22 : decode code 22 = .ok (.astore_n 1, 1) := by decide +kernel
theorem d_LW_law_23 : decode code 23 = .ok (.new 24, 3) := by decide +kernel
theorem d_LW_law_26 : decode code 26 = .ok (.dup, 1) := by decide +kernel
theorem d_LW_law_27 : decode code 27 = .ok (.aload_n 0, 1) := by decide +kernel
theorem d_LW_law_28 : decode code 28 = .ok (.iconst 0, 1) := by decide +kernel
theorem d_LW_law_29 : decode code 29 = .ok (.invokestatic 15, 3) := by decide +kernel
theorem d_LW_law_32 : decode code 32 = .ok (.aload_n 0, 1) := by decide +kernel
theorem d_LW_law_33 : decode code 33 = .ok (.iconst 1, 1) := by decide +kernel
theorem d_LW_law_34 : decode code 34 = .ok (.invokestatic 15, 3) := by decide +kernel
theorem d_LW_law_37 : decode code 37 = .ok (.aload_n 0, 1) := by decide +kernel
theorem d_LW_law_38 : decode code 38 = .ok (.iconst 2, 1) := by decide +kernel
theorem d_LW_law_39 : decode code 39 = .ok (.invokestatic 15, 3) := by decide +kernel
theorem d_LW_law_42 : decode code 42 = .ok (.invokespecial 26, 3) := by decide +kernel
theorem d_LW_law_45 : decode code 45 = .ok (.astore_n 2, 1) := by decide +kernel
theorem d_LW_law_46 : decode code 46 = .ok (.iconst 1, 1) := by decide +kernel
theorem d_LW_law_47 : decode code 47 = .ok (.newarray .long, 2) := by decide +kernel
theorem d_LW_law_49 : decode code 49 = .ok (.astore_n 3, 1) := by decide +kernel
theorem d_LW_law_50 : decode code 50 = .ok (.iconst 3, 1) := by decide +kernel
theorem d_LW_law_51 : decode code 51 = .ok (.istore 4, 2) := by decide +kernel
theorem d_LW_law_53 : decode code 53 = .ok (.iload 4, 2) := by decide +kernel
theorem d_LW_law_55 : decode code 55 = .ok (.aload_n 0, 1) := by decide +kernel
theorem d_LW_law_56 : decode code 56 = .ok (.arraylength, 1) := by decide +kernel
theorem d_LW_law_57 : decode code 57 = .ok (.bipush 6, 2) := by decide +kernel
theorem d_LW_law_59 : decode code 59 = .ok (.isub, 1) := by decide +kernel
theorem d_LW_law_60 : decode code 60 = .ok (.if_icmp .gt 748, 3) := by decide +kernel
theorem d_LW_law_63 : decode code 63 = .ok (.aload_n 0, 1) := by decide +kernel
theorem d_LW_law_64 : decode code 64 = .ok (.iload 4, 2) := by decide +kernel
theorem d_LW_law_66 : decode code 66 = .ok (.iaload, 1) := by decide +kernel
theorem d_LW_law_67 : decode code 67 = .ok (.bipush 15, 2) := by decide +kernel
theorem d_LW_law_69 : decode code 69 = .ok (.iand, 1) := by decide +kernel
theorem d_LW_law_70 : decode code 70 = .ok (.tableswitch 732 0 12 #[66, 123, 180, 233, 274, 299, 368, 512, 569, 594, 632, 657, 707], 66) := by decide +kernel
theorem d_LW_law_136 : decode code 136 = .ok (.aload_n 1, 1) := by decide +kernel
theorem d_LW_law_137 : decode code 137 = .ok (.aload_n 0, 1) := by decide +kernel
theorem d_LW_law_138 : decode code 138 = .ok (.iload 4, 2) := by decide +kernel
theorem d_LW_law_140 : decode code 140 = .ok (.iconst 1, 1) := by decide +kernel
theorem d_LW_law_141 : decode code 141 = .ok (.iadd, 1) := by decide +kernel
theorem d_LW_law_142 : decode code 142 = .ok (.iaload, 1) := by decide +kernel
theorem d_LW_law_143 : decode code 143 = .ok (.i2l, 1) := by decide +kernel
theorem d_LW_law_144 : decode code 144 = .ok (.bipush 32, 2) := by decide +kernel
theorem d_LW_law_146 : decode code 146 = .ok (.lshl, 1) := by decide +kernel
theorem d_LW_law_147 : decode code 147 = .ok (.aload_n 0, 1) := by decide +kernel
theorem d_LW_law_148 : decode code 148 = .ok (.iload 4, 2) := by decide +kernel
theorem d_LW_law_150 : decode code 150 = .ok (.iconst 2, 1) := by decide +kernel
theorem d_LW_law_151 : decode code 151 = .ok (.iadd, 1) := by decide +kernel
theorem d_LW_law_152 : decode code 152 = .ok (.iaload, 1) := by decide +kernel
theorem d_LW_law_153 : decode code 153 = .ok (.i2l, 1) := by decide +kernel
theorem d_LW_law_154 : decode code 154 = .ok (.ldc2_w 27, 3) := by decide +kernel
theorem d_LW_law_157 : decode code 157 = .ok (.land, 1) := by decide +kernel
theorem d_LW_law_158 : decode code 158 = .ok (.lor, 1) := by decide +kernel
theorem d_LW_law_159 : decode code 159 = .ok (.invokevirtual 29, 3) := by decide +kernel
theorem d_LW_law_162 : decode code 162 = .ok (.aload_n 2, 1) := by decide +kernel
theorem d_LW_law_163 : decode code 163 = .ok (.aload_n 0, 1) := by decide +kernel
theorem d_LW_law_164 : decode code 164 = .ok (.iload 4, 2) := by decide +kernel
theorem d_LW_law_166 : decode code 166 = .ok (.iconst 1, 1) := by decide +kernel
theorem d_LW_law_167 : decode code 167 = .ok (.iadd, 1) := by decide +kernel
theorem d_LW_law_168 : decode code 168 = .ok (.iaload, 1) := by decide +kernel
theorem d_LW_law_169 : decode code 169 = .ok (.i2l, 1) := by decide +kernel
theorem d_LW_law_170 : decode code 170 = .ok (.bipush 32, 2) := by decide +kernel
theorem d_LW_law_172 : decode code 172 = .ok (.lshl, 1) := by decide +kernel
theorem d_LW_law_173 : decode code 173 = .ok (.aload_n 0, 1) := by decide +kernel
theorem d_LW_law_174 : decode code 174 = .ok (.iload 4, 2) := by decide +kernel
theorem d_LW_law_176 : decode code 176 = .ok (.iconst 2, 1) := by decide +kernel
theorem d_LW_law_177 : decode code 177 = .ok (.iadd, 1) := by decide +kernel
theorem d_LW_law_178 : decode code 178 = .ok (.iaload, 1) := by decide +kernel
theorem d_LW_law_179 : decode code 179 = .ok (.i2l, 1) := by decide +kernel
theorem d_LW_law_180 : decode code 180 = .ok (.ldc2_w 27, 3) := by decide +kernel
theorem d_LW_law_183 : decode code 183 = .ok (.land, 1) := by decide +kernel
theorem d_LW_law_184 : decode code 184 = .ok (.lor, 1) := by decide +kernel
theorem d_LW_law_185 : decode code 185 = .ok (.invokevirtual 33, 3) := by decide +kernel
theorem d_LW_law_188 : decode code 188 = .ok (.if_icmp .eq 614, 3) := by decide +kernel
theorem d_LW_law_191 : decode code 191 = .ok (.iconst 0, 1) := by decide +kernel
theorem d_LW_law_192 : decode code 192 = .ok (.ireturn, 1) := by decide +kernel
theorem d_LW_law_193 : decode code 193 = .ok (.aload_n 1, 1) := by decide +kernel
theorem d_LW_law_194 : decode code 194 = .ok (.aload_n 0, 1) := by decide +kernel
theorem d_LW_law_195 : decode code 195 = .ok (.iload 4, 2) := by decide +kernel
theorem d_LW_law_197 : decode code 197 = .ok (.iconst 1, 1) := by decide +kernel
theorem d_LW_law_198 : decode code 198 = .ok (.iadd, 1) := by decide +kernel
theorem d_LW_law_199 : decode code 199 = .ok (.iaload, 1) := by decide +kernel
theorem d_LW_law_200 : decode code 200 = .ok (.i2l, 1) := by decide +kernel
theorem d_LW_law_201 : decode code 201 = .ok (.bipush 32, 2) := by decide +kernel
theorem d_LW_law_203 : decode code 203 = .ok (.lshl, 1) := by decide +kernel
theorem d_LW_law_204 : decode code 204 = .ok (.aload_n 0, 1) := by decide +kernel
theorem d_LW_law_205 : decode code 205 = .ok (.iload 4, 2) := by decide +kernel
theorem d_LW_law_207 : decode code 207 = .ok (.iconst 2, 1) := by decide +kernel
theorem d_LW_law_208 : decode code 208 = .ok (.iadd, 1) := by decide +kernel
theorem d_LW_law_209 : decode code 209 = .ok (.iaload, 1) := by decide +kernel
theorem d_LW_law_210 : decode code 210 = .ok (.i2l, 1) := by decide +kernel
theorem d_LW_law_211 : decode code 211 = .ok (.ldc2_w 27, 3) := by decide +kernel
theorem d_LW_law_214 : decode code 214 = .ok (.land, 1) := by decide +kernel
theorem d_LW_law_215 : decode code 215 = .ok (.lor, 1) := by decide +kernel
theorem d_LW_law_216 : decode code 216 = .ok (.invokevirtual 34, 3) := by decide +kernel
theorem d_LW_law_219 : decode code 219 = .ok (.aload_n 2, 1) := by decide +kernel
theorem d_LW_law_220 : decode code 220 = .ok (.aload_n 0, 1) := by decide +kernel
theorem d_LW_law_221 : decode code 221 = .ok (.iload 4, 2) := by decide +kernel
theorem d_LW_law_223 : decode code 223 = .ok (.iconst 1, 1) := by decide +kernel
theorem d_LW_law_224 : decode code 224 = .ok (.iadd, 1) := by decide +kernel
theorem d_LW_law_225 : decode code 225 = .ok (.iaload, 1) := by decide +kernel
theorem d_LW_law_226 : decode code 226 = .ok (.i2l, 1) := by decide +kernel
theorem d_LW_law_227 : decode code 227 = .ok (.bipush 32, 2) := by decide +kernel
theorem d_LW_law_229 : decode code 229 = .ok (.lshl, 1) := by decide +kernel
theorem d_LW_law_230 : decode code 230 = .ok (.aload_n 0, 1) := by decide +kernel
theorem d_LW_law_231 : decode code 231 = .ok (.iload 4, 2) := by decide +kernel
theorem d_LW_law_233 : decode code 233 = .ok (.iconst 2, 1) := by decide +kernel
theorem d_LW_law_234 : decode code 234 = .ok (.iadd, 1) := by decide +kernel
theorem d_LW_law_235 : decode code 235 = .ok (.iaload, 1) := by decide +kernel
theorem d_LW_law_236 : decode code 236 = .ok (.i2l, 1) := by decide +kernel
theorem d_LW_law_237 : decode code 237 = .ok (.ldc2_w 27, 3) := by decide +kernel
theorem d_LW_law_240 : decode code 240 = .ok (.land, 1) := by decide +kernel
theorem d_LW_law_241 : decode code 241 = .ok (.lor, 1) := by decide +kernel
theorem d_LW_law_242 : decode code 242 = .ok (.invokevirtual 37, 3) := by decide +kernel
theorem d_LW_law_245 : decode code 245 = .ok (.if_icmp .eq 557, 3) := by decide +kernel
theorem d_LW_law_248 : decode code 248 = .ok (.iconst 0, 1) := by decide +kernel
theorem d_LW_law_249 : decode code 249 = .ok (.ireturn, 1) := by decide +kernel
theorem d_LW_law_250 : decode code 250 = .ok (.aload_n 1, 1) := by decide +kernel
theorem d_LW_law_251 : decode code 251 = .ok (.aload_n 0, 1) := by decide +kernel
theorem d_LW_law_252 : decode code 252 = .ok (.iload 4, 2) := by decide +kernel
theorem d_LW_law_254 : decode code 254 = .ok (.iconst 1, 1) := by decide +kernel
theorem d_LW_law_255 : decode code 255 = .ok (.iadd, 1) := by decide +kernel
theorem d_LW_law_256 : decode code 256 = .ok (.iaload, 1) := by decide +kernel
theorem d_LW_law_257 : decode code 257 = .ok (.aload_n 0, 1) := by decide +kernel
theorem d_LW_law_258 : decode code 258 = .ok (.iload 4, 2) := by decide +kernel
theorem d_LW_law_260 : decode code 260 = .ok (.iconst 2, 1) := by decide +kernel
theorem d_LW_law_261 : decode code 261 = .ok (.iadd, 1) := by decide +kernel
theorem d_LW_law_262 : decode code 262 = .ok (.iaload, 1) := by decide +kernel
theorem d_LW_law_263 : decode code 263 = .ok (.ifCond .eq 7, 3) := by decide +kernel
theorem d_LW_law_266 : decode code 266 = .ok (.iconst 1, 1) := by decide +kernel
theorem d_LW_law_267 : decode code 267 = .ok (.goto 4, 3) := by decide +kernel
theorem d_LW_law_270 : decode code 270 = .ok (.iconst 0, 1) := by decide +kernel
theorem d_LW_law_271 : decode code 271 = .ok (.invokevirtual 38, 3) := by decide +kernel
theorem d_LW_law_274 : decode code 274 = .ok (.aload_n 2, 1) := by decide +kernel
theorem d_LW_law_275 : decode code 275 = .ok (.aload_n 0, 1) := by decide +kernel
theorem d_LW_law_276 : decode code 276 = .ok (.iload 4, 2) := by decide +kernel
theorem d_LW_law_278 : decode code 278 = .ok (.iconst 1, 1) := by decide +kernel
theorem d_LW_law_279 : decode code 279 = .ok (.iadd, 1) := by decide +kernel
theorem d_LW_law_280 : decode code 280 = .ok (.iaload, 1) := by decide +kernel
theorem d_LW_law_281 : decode code 281 = .ok (.aload_n 0, 1) := by decide +kernel
theorem d_LW_law_282 : decode code 282 = .ok (.iload 4, 2) := by decide +kernel
theorem d_LW_law_284 : decode code 284 = .ok (.iconst 2, 1) := by decide +kernel
theorem d_LW_law_285 : decode code 285 = .ok (.iadd, 1) := by decide +kernel
theorem d_LW_law_286 : decode code 286 = .ok (.iaload, 1) := by decide +kernel
theorem d_LW_law_287 : decode code 287 = .ok (.ifCond .eq 7, 3) := by decide +kernel
theorem d_LW_law_290 : decode code 290 = .ok (.iconst 1, 1) := by decide +kernel
theorem d_LW_law_291 : decode code 291 = .ok (.goto 4, 3) := by decide +kernel
theorem d_LW_law_294 : decode code 294 = .ok (.iconst 0, 1) := by decide +kernel
theorem d_LW_law_295 : decode code 295 = .ok (.invokevirtual 42, 3) := by decide +kernel
theorem d_LW_law_298 : decode code 298 = .ok (.if_icmp .eq 504, 3) := by decide +kernel
theorem d_LW_law_301 : decode code 301 = .ok (.iconst 0, 1) := by decide +kernel
theorem d_LW_law_302 : decode code 302 = .ok (.ireturn, 1) := by decide +kernel
theorem d_LW_law_303 : decode code 303 = .ok (.aload_n 1, 1) := by decide +kernel
theorem d_LW_law_304 : decode code 304 = .ok (.aload_n 0, 1) := by decide +kernel
theorem d_LW_law_305 : decode code 305 = .ok (.iload 4, 2) := by decide +kernel
theorem d_LW_law_307 : decode code 307 = .ok (.iconst 1, 1) := by decide +kernel
theorem d_LW_law_308 : decode code 308 = .ok (.iadd, 1) := by decide +kernel
theorem d_LW_law_309 : decode code 309 = .ok (.iaload, 1) := by decide +kernel
theorem d_LW_law_310 : decode code 310 = .ok (.ifCond .eq 7, 3) := by decide +kernel
theorem d_LW_law_313 : decode code 313 = .ok (.iconst 1, 1) := by decide +kernel
theorem d_LW_law_314 : decode code 314 = .ok (.goto 4, 3) := by decide +kernel
theorem d_LW_law_317 : decode code 317 = .ok (.iconst 0, 1) := by decide +kernel
theorem d_LW_law_318 : decode code 318 = .ok (.invokevirtual 43, 3) := by decide +kernel
theorem d_LW_law_321 : decode code 321 = .ok (.aload_n 2, 1) := by decide +kernel
theorem d_LW_law_322 : decode code 322 = .ok (.aload_n 0, 1) := by decide +kernel
theorem d_LW_law_323 : decode code 323 = .ok (.iload 4, 2) := by decide +kernel
theorem d_LW_law_325 : decode code 325 = .ok (.iconst 1, 1) := by decide +kernel
theorem d_LW_law_326 : decode code 326 = .ok (.iadd, 1) := by decide +kernel
theorem d_LW_law_327 : decode code 327 = .ok (.iaload, 1) := by decide +kernel
theorem d_LW_law_328 : decode code 328 = .ok (.ifCond .eq 7, 3) := by decide +kernel
theorem d_LW_law_331 : decode code 331 = .ok (.iconst 1, 1) := by decide +kernel
theorem d_LW_law_332 : decode code 332 = .ok (.goto 4, 3) := by decide +kernel
theorem d_LW_law_335 : decode code 335 = .ok (.iconst 0, 1) := by decide +kernel
theorem d_LW_law_336 : decode code 336 = .ok (.invokevirtual 47, 3) := by decide +kernel
theorem d_LW_law_339 : decode code 339 = .ok (.if_icmp .eq 463, 3) := by decide +kernel
theorem d_LW_law_342 : decode code 342 = .ok (.iconst 0, 1) := by decide +kernel
theorem d_LW_law_343 : decode code 343 = .ok (.ireturn, 1) := by decide +kernel
theorem d_LW_law_344 : decode code 344 = .ok (.aload_n 1, 1) := by decide +kernel
theorem d_LW_law_345 : decode code 345 = .ok (.aload_n 0, 1) := by decide +kernel
theorem d_LW_law_346 : decode code 346 = .ok (.iload 4, 2) := by decide +kernel
theorem d_LW_law_348 : decode code 348 = .ok (.iconst 1, 1) := by decide +kernel
theorem d_LW_law_349 : decode code 349 = .ok (.iadd, 1) := by decide +kernel
theorem d_LW_law_350 : decode code 350 = .ok (.iaload, 1) := by decide +kernel
theorem d_LW_law_351 : decode code 351 = .ok (.invokevirtual 48, 3) := by decide +kernel
theorem d_LW_law_354 : decode code 354 = .ok (.aload_n 2, 1) := by decide +kernel
theorem d_LW_law_355 : decode code 355 = .ok (.aload_n 0, 1) := by decide +kernel
theorem d_LW_law_356 : decode code 356 = .ok (.iload 4, 2) := by decide +kernel
theorem d_LW_law_358 : decode code 358 = .ok (.iconst 1, 1) := by decide +kernel
theorem d_LW_law_359 : decode code 359 = .ok (.iadd, 1) := by decide +kernel
theorem d_LW_law_360 : decode code 360 = .ok (.iaload, 1) := by decide +kernel
theorem d_LW_law_361 : decode code 361 = .ok (.invokevirtual 52, 3) := by decide +kernel
theorem d_LW_law_364 : decode code 364 = .ok (.if_icmp .eq 438, 3) := by decide +kernel
theorem d_LW_law_367 : decode code 367 = .ok (.iconst 0, 1) := by decide +kernel
theorem d_LW_law_368 : decode code 368 = .ok (.ireturn, 1) := by decide +kernel
theorem d_LW_law_369 : decode code 369 = .ok (.aload_n 1, 1) := by decide +kernel
theorem d_LW_law_370 : decode code 370 = .ok (.aload_n 0, 1) := by decide +kernel
theorem d_LW_law_371 : decode code 371 = .ok (.iload 4, 2) := by decide +kernel
theorem d_LW_law_373 : decode code 373 = .ok (.iconst 1, 1) := by decide +kernel
theorem d_LW_law_374 : decode code 374 = .ok (.iadd, 1) := by decide +kernel
theorem d_LW_law_375 : decode code 375 = .ok (.iaload, 1) := by decide +kernel
theorem d_LW_law_376 : decode code 376 = .ok (.aload_n 0, 1) := by decide +kernel
theorem d_LW_law_377 : decode code 377 = .ok (.iload 4, 2) := by decide +kernel
theorem d_LW_law_379 : decode code 379 = .ok (.iconst 2, 1) := by decide +kernel
theorem d_LW_law_380 : decode code 380 = .ok (.iadd, 1) := by decide +kernel
theorem d_LW_law_381 : decode code 381 = .ok (.iaload, 1) := by decide +kernel
theorem d_LW_law_382 : decode code 382 = .ok (.i2l, 1) := by decide +kernel
theorem d_LW_law_383 : decode code 383 = .ok (.bipush 32, 2) := by decide +kernel
theorem d_LW_law_385 : decode code 385 = .ok (.lshl, 1) := by decide +kernel
theorem d_LW_law_386 : decode code 386 = .ok (.aload_n 0, 1) := by decide +kernel
theorem d_LW_law_387 : decode code 387 = .ok (.iload 4, 2) := by decide +kernel
theorem d_LW_law_389 : decode code 389 = .ok (.iconst 3, 1) := by decide +kernel
theorem d_LW_law_390 : decode code 390 = .ok (.iadd, 1) := by decide +kernel
theorem d_LW_law_391 : decode code 391 = .ok (.iaload, 1) := by decide +kernel
theorem d_LW_law_392 : decode code 392 = .ok (.i2l, 1) := by decide +kernel
theorem d_LW_law_393 : decode code 393 = .ok (.ldc2_w 27, 3) := by decide +kernel
theorem d_LW_law_396 : decode code 396 = .ok (.land, 1) := by decide +kernel
theorem d_LW_law_397 : decode code 397 = .ok (.lor, 1) := by decide +kernel
theorem d_LW_law_398 : decode code 398 = .ok (.invokevirtual 53, 3) := by decide +kernel
theorem d_LW_law_401 : decode code 401 = .ok (.aload_n 2, 1) := by decide +kernel
theorem d_LW_law_402 : decode code 402 = .ok (.aload_n 0, 1) := by decide +kernel
theorem d_LW_law_403 : decode code 403 = .ok (.iload 4, 2) := by decide +kernel
theorem d_LW_law_405 : decode code 405 = .ok (.iconst 1, 1) := by decide +kernel
theorem d_LW_law_406 : decode code 406 = .ok (.iadd, 1) := by decide +kernel
theorem d_LW_law_407 : decode code 407 = .ok (.iaload, 1) := by decide +kernel
theorem d_LW_law_408 : decode code 408 = .ok (.aload_n 0, 1) := by decide +kernel
theorem d_LW_law_409 : decode code 409 = .ok (.iload 4, 2) := by decide +kernel
theorem d_LW_law_411 : decode code 411 = .ok (.iconst 2, 1) := by decide +kernel
theorem d_LW_law_412 : decode code 412 = .ok (.iadd, 1) := by decide +kernel
theorem d_LW_law_413 : decode code 413 = .ok (.iaload, 1) := by decide +kernel
theorem d_LW_law_414 : decode code 414 = .ok (.i2l, 1) := by decide +kernel
theorem d_LW_law_415 : decode code 415 = .ok (.bipush 32, 2) := by decide +kernel
theorem d_LW_law_417 : decode code 417 = .ok (.lshl, 1) := by decide +kernel
theorem d_LW_law_418 : decode code 418 = .ok (.aload_n 0, 1) := by decide +kernel
theorem d_LW_law_419 : decode code 419 = .ok (.iload 4, 2) := by decide +kernel
theorem d_LW_law_421 : decode code 421 = .ok (.iconst 3, 1) := by decide +kernel
theorem d_LW_law_422 : decode code 422 = .ok (.iadd, 1) := by decide +kernel
theorem d_LW_law_423 : decode code 423 = .ok (.iaload, 1) := by decide +kernel
theorem d_LW_law_424 : decode code 424 = .ok (.i2l, 1) := by decide +kernel
theorem d_LW_law_425 : decode code 425 = .ok (.ldc2_w 27, 3) := by decide +kernel
theorem d_LW_law_428 : decode code 428 = .ok (.land, 1) := by decide +kernel
theorem d_LW_law_429 : decode code 429 = .ok (.lor, 1) := by decide +kernel
theorem d_LW_law_430 : decode code 430 = .ok (.invokevirtual 57, 3) := by decide +kernel
theorem d_LW_law_433 : decode code 433 = .ok (.if_icmp .eq 369, 3) := by decide +kernel
theorem d_LW_law_436 : decode code 436 = .ok (.iconst 0, 1) := by decide +kernel
theorem d_LW_law_437 : decode code 437 = .ok (.ireturn, 1) := by decide +kernel
theorem d_LW_law_438 : decode code 438 = .ok (.aload_n 1, 1) := by decide +kernel
theorem d_LW_law_439 : decode code 439 = .ok (.aload_n 0, 1) := by decide +kernel
theorem d_LW_law_440 : decode code 440 = .ok (.iload 4, 2) := by decide +kernel
theorem d_LW_law_442 : decode code 442 = .ok (.iconst 1, 1) := by decide +kernel
theorem d_LW_law_443 : decode code 443 = .ok (.iadd, 1) := by decide +kernel
theorem d_LW_law_444 : decode code 444 = .ok (.iaload, 1) := by decide +kernel
theorem d_LW_law_445 : decode code 445 = .ok (.aload_n 0, 1) := by decide +kernel
theorem d_LW_law_446 : decode code 446 = .ok (.iload 4, 2) := by decide +kernel
theorem d_LW_law_448 : decode code 448 = .ok (.iconst 2, 1) := by decide +kernel
theorem d_LW_law_449 : decode code 449 = .ok (.iadd, 1) := by decide +kernel
theorem d_LW_law_450 : decode code 450 = .ok (.iaload, 1) := by decide +kernel
theorem d_LW_law_451 : decode code 451 = .ok (.i2l, 1) := by decide +kernel
theorem d_LW_law_452 : decode code 452 = .ok (.bipush 32, 2) := by decide +kernel
theorem d_LW_law_454 : decode code 454 = .ok (.lshl, 1) := by decide +kernel
theorem d_LW_law_455 : decode code 455 = .ok (.aload_n 0, 1) := by decide +kernel
theorem d_LW_law_456 : decode code 456 = .ok (.iload 4, 2) := by decide +kernel
theorem d_LW_law_458 : decode code 458 = .ok (.iconst 3, 1) := by decide +kernel
theorem d_LW_law_459 : decode code 459 = .ok (.iadd, 1) := by decide +kernel
theorem d_LW_law_460 : decode code 460 = .ok (.iaload, 1) := by decide +kernel
theorem d_LW_law_461 : decode code 461 = .ok (.i2l, 1) := by decide +kernel
theorem d_LW_law_462 : decode code 462 = .ok (.ldc2_w 27, 3) := by decide +kernel
theorem d_LW_law_465 : decode code 465 = .ok (.land, 1) := by decide +kernel
theorem d_LW_law_466 : decode code 466 = .ok (.lor, 1) := by decide +kernel
theorem d_LW_law_467 : decode code 467 = .ok (.aload_n 0, 1) := by decide +kernel
theorem d_LW_law_468 : decode code 468 = .ok (.iload 4, 2) := by decide +kernel
theorem d_LW_law_470 : decode code 470 = .ok (.iconst 4, 1) := by decide +kernel
theorem d_LW_law_471 : decode code 471 = .ok (.iadd, 1) := by decide +kernel
theorem d_LW_law_472 : decode code 472 = .ok (.iaload, 1) := by decide +kernel
theorem d_LW_law_473 : decode code 473 = .ok (.i2l, 1) := by decide +kernel
theorem d_LW_law_474 : decode code 474 = .ok (.bipush 32, 2) := by decide +kernel
theorem d_LW_law_476 : decode code 476 = .ok (.lshl, 1) := by decide +kernel
theorem d_LW_law_477 : decode code 477 = .ok (.aload_n 0, 1) := by decide +kernel
theorem d_LW_law_478 : decode code 478 = .ok (.iload 4, 2) := by decide +kernel
theorem d_LW_law_480 : decode code 480 = .ok (.iconst 5, 1) := by decide +kernel
theorem d_LW_law_481 : decode code 481 = .ok (.iadd, 1) := by decide +kernel
theorem d_LW_law_482 : decode code 482 = .ok (.iaload, 1) := by decide +kernel
theorem d_LW_law_483 : decode code 483 = .ok (.i2l, 1) := by decide +kernel
theorem d_LW_law_484 : decode code 484 = .ok (.ldc2_w 27, 3) := by decide +kernel
theorem d_LW_law_487 : decode code 487 = .ok (.land, 1) := by decide +kernel
theorem d_LW_law_488 : decode code 488 = .ok (.lor, 1) := by decide +kernel
theorem d_LW_law_489 : decode code 489 = .ok (.aload_n 3, 1) := by decide +kernel
theorem d_LW_law_490 : decode code 490 = .ok (.invokestatic 58, 3) := by decide +kernel
theorem d_LW_law_493 : decode code 493 = .ok (.istore 5, 2) := by decide +kernel
theorem d_LW_law_495 : decode code 495 = .ok (.aload_n 2, 1) := by decide +kernel
theorem d_LW_law_496 : decode code 496 = .ok (.aload_n 0, 1) := by decide +kernel
theorem d_LW_law_497 : decode code 497 = .ok (.iload 4, 2) := by decide +kernel
theorem d_LW_law_499 : decode code 499 = .ok (.iconst 1, 1) := by decide +kernel
theorem d_LW_law_500 : decode code 500 = .ok (.iadd, 1) := by decide +kernel
theorem d_LW_law_501 : decode code 501 = .ok (.iaload, 1) := by decide +kernel
theorem d_LW_law_502 : decode code 502 = .ok (.aload_n 0, 1) := by decide +kernel
theorem d_LW_law_503 : decode code 503 = .ok (.iload 4, 2) := by decide +kernel
theorem d_LW_law_505 : decode code 505 = .ok (.iconst 2, 1) := by decide +kernel
theorem d_LW_law_506 : decode code 506 = .ok (.iadd, 1) := by decide +kernel
theorem d_LW_law_507 : decode code 507 = .ok (.iaload, 1) := by decide +kernel
theorem d_LW_law_508 : decode code 508 = .ok (.i2l, 1) := by decide +kernel
theorem d_LW_law_509 : decode code 509 = .ok (.bipush 32, 2) := by decide +kernel
theorem d_LW_law_511 : decode code 511 = .ok (.lshl, 1) := by decide +kernel
theorem d_LW_law_512 : decode code 512 = .ok (.aload_n 0, 1) := by decide +kernel
theorem d_LW_law_513 : decode code 513 = .ok (.iload 4, 2) := by decide +kernel
theorem d_LW_law_515 : decode code 515 = .ok (.iconst 3, 1) := by decide +kernel
theorem d_LW_law_516 : decode code 516 = .ok (.iadd, 1) := by decide +kernel
theorem d_LW_law_517 : decode code 517 = .ok (.iaload, 1) := by decide +kernel
theorem d_LW_law_518 : decode code 518 = .ok (.i2l, 1) := by decide +kernel
theorem d_LW_law_519 : decode code 519 = .ok (.ldc2_w 27, 3) := by decide +kernel
theorem d_LW_law_522 : decode code 522 = .ok (.land, 1) := by decide +kernel
theorem d_LW_law_523 : decode code 523 = .ok (.lor, 1) := by decide +kernel
theorem d_LW_law_524 : decode code 524 = .ok (.aload_n 0, 1) := by decide +kernel
theorem d_LW_law_525 : decode code 525 = .ok (.iload 4, 2) := by decide +kernel
theorem d_LW_law_527 : decode code 527 = .ok (.iconst 4, 1) := by decide +kernel
theorem d_LW_law_528 : decode code 528 = .ok (.iadd, 1) := by decide +kernel
theorem d_LW_law_529 : decode code 529 = .ok (.iaload, 1) := by decide +kernel
theorem d_LW_law_530 : decode code 530 = .ok (.i2l, 1) := by decide +kernel
theorem d_LW_law_531 : decode code 531 = .ok (.bipush 32, 2) := by decide +kernel
theorem d_LW_law_533 : decode code 533 = .ok (.lshl, 1) := by decide +kernel
theorem d_LW_law_534 : decode code 534 = .ok (.aload_n 0, 1) := by decide +kernel
theorem d_LW_law_535 : decode code 535 = .ok (.iload 4, 2) := by decide +kernel
theorem d_LW_law_537 : decode code 537 = .ok (.iconst 5, 1) := by decide +kernel
theorem d_LW_law_538 : decode code 538 = .ok (.iadd, 1) := by decide +kernel
theorem d_LW_law_539 : decode code 539 = .ok (.iaload, 1) := by decide +kernel
theorem d_LW_law_540 : decode code 540 = .ok (.i2l, 1) := by decide +kernel
theorem d_LW_law_541 : decode code 541 = .ok (.ldc2_w 27, 3) := by decide +kernel
theorem d_LW_law_544 : decode code 544 = .ok (.land, 1) := by decide +kernel
theorem d_LW_law_545 : decode code 545 = .ok (.lor, 1) := by decide +kernel
theorem d_LW_law_546 : decode code 546 = .ok (.invokevirtual 61, 3) := by decide +kernel
theorem d_LW_law_549 : decode code 549 = .ok (.istore 6, 2) := by decide +kernel
theorem d_LW_law_551 : decode code 551 = .ok (.aload_n 2, 1) := by decide +kernel
theorem d_LW_law_552 : decode code 552 = .ok (.invokevirtual 62, 3) := by decide +kernel
theorem d_LW_law_555 : decode code 555 = .ok (.iload 5, 2) := by decide +kernel
theorem d_LW_law_557 : decode code 557 = .ok (.if_icmp .eq 5, 3) := by decide +kernel
theorem d_LW_law_560 : decode code 560 = .ok (.iconst 0, 1) := by decide +kernel
theorem d_LW_law_561 : decode code 561 = .ok (.ireturn, 1) := by decide +kernel
theorem d_LW_law_562 : decode code 562 = .ok (.iload 5, 2) := by decide +kernel
theorem d_LW_law_564 : decode code 564 = .ok (.ifCond .ne 15, 3) := by decide +kernel
theorem d_LW_law_567 : decode code 567 = .ok (.aload_n 3, 1) := by decide +kernel
theorem d_LW_law_568 : decode code 568 = .ok (.iconst 0, 1) := by decide +kernel
theorem d_LW_law_569 : decode code 569 = .ok (.laload, 1) := by decide +kernel
theorem d_LW_law_570 : decode code 570 = .ok (.iload 6, 2) := by decide +kernel
theorem d_LW_law_572 : decode code 572 = .ok (.i2l, 1) := by decide +kernel
theorem d_LW_law_573 : decode code 573 = .ok (.lcmp, 1) := by decide +kernel
theorem d_LW_law_574 : decode code 574 = .ok (.ifCond .eq 5, 3) := by decide +kernel
theorem d_LW_law_577 : decode code 577 = .ok (.iconst 0, 1) := by decide +kernel
theorem d_LW_law_578 : decode code 578 = .ok (.ireturn, 1) := by decide +kernel
theorem d_LW_law_579 : decode code 579 = .ok (.goto 223, 3) := by decide +kernel
theorem d_LW_law_582 : decode code 582 = .ok (.aload_n 1, 1) := by decide +kernel
theorem d_LW_law_583 : decode code 583 = .ok (.aload_n 0, 1) := by decide +kernel
theorem d_LW_law_584 : decode code 584 = .ok (.iload 4, 2) := by decide +kernel
theorem d_LW_law_586 : decode code 586 = .ok (.iconst 1, 1) := by decide +kernel
theorem d_LW_law_587 : decode code 587 = .ok (.iadd, 1) := by decide +kernel
theorem d_LW_law_588 : decode code 588 = .ok (.iaload, 1) := by decide +kernel
theorem d_LW_law_589 : decode code 589 = .ok (.i2l, 1) := by decide +kernel
theorem d_LW_law_590 : decode code 590 = .ok (.bipush 32, 2) := by decide +kernel
theorem d_LW_law_592 : decode code 592 = .ok (.lshl, 1) := by decide +kernel
theorem d_LW_law_593 : decode code 593 = .ok (.aload_n 0, 1) := by decide +kernel
theorem d_LW_law_594 : decode code 594 = .ok (.iload 4, 2) := by decide +kernel
theorem d_LW_law_596 : decode code 596 = .ok (.iconst 2, 1) := by decide +kernel
theorem d_LW_law_597 : decode code 597 = .ok (.iadd, 1) := by decide +kernel
theorem d_LW_law_598 : decode code 598 = .ok (.iaload, 1) := by decide +kernel
theorem d_LW_law_599 : decode code 599 = .ok (.i2l, 1) := by decide +kernel
theorem d_LW_law_600 : decode code 600 = .ok (.ldc2_w 27, 3) := by decide +kernel
theorem d_LW_law_603 : decode code 603 = .ok (.land, 1) := by decide +kernel
theorem d_LW_law_604 : decode code 604 = .ok (.lor, 1) := by decide +kernel
theorem d_LW_law_605 : decode code 605 = .ok (.invokevirtual 66, 3) := by decide +kernel
theorem d_LW_law_608 : decode code 608 = .ok (.aload_n 2, 1) := by decide +kernel
theorem d_LW_law_609 : decode code 609 = .ok (.aload_n 0, 1) := by decide +kernel
theorem d_LW_law_610 : decode code 610 = .ok (.iload 4, 2) := by decide +kernel
theorem d_LW_law_612 : decode code 612 = .ok (.iconst 1, 1) := by decide +kernel
theorem d_LW_law_613 : decode code 613 = .ok (.iadd, 1) := by decide +kernel
theorem d_LW_law_614 : decode code 614 = .ok (.iaload, 1) := by decide +kernel
theorem d_LW_law_615 : decode code 615 = .ok (.i2l, 1) := by decide +kernel
theorem d_LW_law_616 : decode code 616 = .ok (.bipush 32, 2) := by decide +kernel
theorem d_LW_law_618 : decode code 618 = .ok (.lshl, 1) := by decide +kernel
theorem d_LW_law_619 : decode code 619 = .ok (.aload_n 0, 1) := by decide +kernel
theorem d_LW_law_620 : decode code 620 = .ok (.iload 4, 2) := by decide +kernel
theorem d_LW_law_622 : decode code 622 = .ok (.iconst 2, 1) := by decide +kernel
theorem d_LW_law_623 : decode code 623 = .ok (.iadd, 1) := by decide +kernel
theorem d_LW_law_624 : decode code 624 = .ok (.iaload, 1) := by decide +kernel
theorem d_LW_law_625 : decode code 625 = .ok (.i2l, 1) := by decide +kernel
theorem d_LW_law_626 : decode code 626 = .ok (.ldc2_w 27, 3) := by decide +kernel
theorem d_LW_law_629 : decode code 629 = .ok (.land, 1) := by decide +kernel
theorem d_LW_law_630 : decode code 630 = .ok (.lor, 1) := by decide +kernel
theorem d_LW_law_631 : decode code 631 = .ok (.invokevirtual 69, 3) := by decide +kernel
theorem d_LW_law_634 : decode code 634 = .ok (.if_icmp .eq 168, 3) := by decide +kernel
theorem d_LW_law_637 : decode code 637 = .ok (.iconst 0, 1) := by decide +kernel
theorem d_LW_law_638 : decode code 638 = .ok (.ireturn, 1) := by decide +kernel
theorem d_LW_law_639 : decode code 639 = .ok (.aload_n 1, 1) := by decide +kernel
theorem d_LW_law_640 : decode code 640 = .ok (.aload_n 0, 1) := by decide +kernel
theorem d_LW_law_641 : decode code 641 = .ok (.iload 4, 2) := by decide +kernel
theorem d_LW_law_643 : decode code 643 = .ok (.iconst 1, 1) := by decide +kernel
theorem d_LW_law_644 : decode code 644 = .ok (.iadd, 1) := by decide +kernel
theorem d_LW_law_645 : decode code 645 = .ok (.iaload, 1) := by decide +kernel
theorem d_LW_law_646 : decode code 646 = .ok (.invokevirtual 70, 3) := by decide +kernel
theorem d_LW_law_649 : decode code 649 = .ok (.aload_n 2, 1) := by decide +kernel
theorem d_LW_law_650 : decode code 650 = .ok (.aload_n 0, 1) := by decide +kernel
theorem d_LW_law_651 : decode code 651 = .ok (.iload 4, 2) := by decide +kernel
theorem d_LW_law_653 : decode code 653 = .ok (.iconst 1, 1) := by decide +kernel
theorem d_LW_law_654 : decode code 654 = .ok (.iadd, 1) := by decide +kernel
theorem d_LW_law_655 : decode code 655 = .ok (.iaload, 1) := by decide +kernel
theorem d_LW_law_656 : decode code 656 = .ok (.invokevirtual 73, 3) := by decide +kernel
theorem d_LW_law_659 : decode code 659 = .ok (.if_icmp .eq 143, 3) := by decide +kernel
theorem d_LW_law_662 : decode code 662 = .ok (.iconst 0, 1) := by decide +kernel
theorem d_LW_law_663 : decode code 663 = .ok (.ireturn, 1) := by decide +kernel
theorem d_LW_law_664 : decode code 664 = .ok (.aload_n 1, 1) := by decide +kernel
theorem d_LW_law_665 : decode code 665 = .ok (.aload_n 0, 1) := by decide +kernel
theorem d_LW_law_666 : decode code 666 = .ok (.iload 4, 2) := by decide +kernel
theorem d_LW_law_668 : decode code 668 = .ok (.iconst 1, 1) := by decide +kernel
theorem d_LW_law_669 : decode code 669 = .ok (.iadd, 1) := by decide +kernel
theorem d_LW_law_670 : decode code 670 = .ok (.iaload, 1) := by decide +kernel
theorem d_LW_law_671 : decode code 671 = .ok (.aload_n 0, 1) := by decide +kernel
theorem d_LW_law_672 : decode code 672 = .ok (.iload 4, 2) := by decide +kernel
theorem d_LW_law_674 : decode code 674 = .ok (.iconst 2, 1) := by decide +kernel
theorem d_LW_law_675 : decode code 675 = .ok (.iadd, 1) := by decide +kernel
theorem d_LW_law_676 : decode code 676 = .ok (.iaload, 1) := by decide +kernel
theorem d_LW_law_677 : decode code 677 = .ok (.invokevirtual 74, 3) := by decide +kernel
theorem d_LW_law_680 : decode code 680 = .ok (.aload_n 2, 1) := by decide +kernel
theorem d_LW_law_681 : decode code 681 = .ok (.aload_n 0, 1) := by decide +kernel
theorem d_LW_law_682 : decode code 682 = .ok (.iload 4, 2) := by decide +kernel
theorem d_LW_law_684 : decode code 684 = .ok (.iconst 1, 1) := by decide +kernel
theorem d_LW_law_685 : decode code 685 = .ok (.iadd, 1) := by decide +kernel
theorem d_LW_law_686 : decode code 686 = .ok (.iaload, 1) := by decide +kernel
theorem d_LW_law_687 : decode code 687 = .ok (.aload_n 0, 1) := by decide +kernel
theorem d_LW_law_688 : decode code 688 = .ok (.iload 4, 2) := by decide +kernel
theorem d_LW_law_690 : decode code 690 = .ok (.iconst 2, 1) := by decide +kernel
theorem d_LW_law_691 : decode code 691 = .ok (.iadd, 1) := by decide +kernel
theorem d_LW_law_692 : decode code 692 = .ok (.iaload, 1) := by decide +kernel
theorem d_LW_law_693 : decode code 693 = .ok (.invokevirtual 78, 3) := by decide +kernel
theorem d_LW_law_696 : decode code 696 = .ok (.lcmp, 1) := by decide +kernel
theorem d_LW_law_697 : decode code 697 = .ok (.ifCond .eq 105, 3) := by decide +kernel
theorem d_LW_law_700 : decode code 700 = .ok (.iconst 0, 1) := by decide +kernel
theorem d_LW_law_701 : decode code 701 = .ok (.ireturn, 1) := by decide +kernel
theorem d_LW_law_702 : decode code 702 = .ok (.aload_n 1, 1) := by decide +kernel
theorem d_LW_law_703 : decode code 703 = .ok (.aload_n 0, 1) := by decide +kernel
theorem d_LW_law_704 : decode code 704 = .ok (.iload 4, 2) := by decide +kernel
theorem d_LW_law_706 : decode code 706 = .ok (.iconst 1, 1) := by decide +kernel
theorem d_LW_law_707 : decode code 707 = .ok (.iadd, 1) := by decide +kernel
theorem d_LW_law_708 : decode code 708 = .ok (.iaload, 1) := by decide +kernel
theorem d_LW_law_709 : decode code 709 = .ok (.invokevirtual 79, 3) := by decide +kernel
theorem d_LW_law_712 : decode code 712 = .ok (.aload_n 2, 1) := by decide +kernel
theorem d_LW_law_713 : decode code 713 = .ok (.aload_n 0, 1) := by decide +kernel
theorem d_LW_law_714 : decode code 714 = .ok (.iload 4, 2) := by decide +kernel
theorem d_LW_law_716 : decode code 716 = .ok (.iconst 1, 1) := by decide +kernel
theorem d_LW_law_717 : decode code 717 = .ok (.iadd, 1) := by decide +kernel
theorem d_LW_law_718 : decode code 718 = .ok (.iaload, 1) := by decide +kernel
theorem d_LW_law_719 : decode code 719 = .ok (.invokevirtual 82, 3) := by decide +kernel
theorem d_LW_law_722 : decode code 722 = .ok (.if_icmp .eq 80, 3) := by decide +kernel
theorem d_LW_law_725 : decode code 725 = .ok (.iconst 0, 1) := by decide +kernel
theorem d_LW_law_726 : decode code 726 = .ok (.ireturn, 1) := by decide +kernel
theorem d_LW_law_727 : decode code 727 = .ok (.aload_n 1, 1) := by decide +kernel
theorem d_LW_law_728 : decode code 728 = .ok (.aload_n 0, 1) := by decide +kernel
theorem d_LW_law_729 : decode code 729 = .ok (.iload 4, 2) := by decide +kernel
theorem d_LW_law_731 : decode code 731 = .ok (.iconst 1, 1) := by decide +kernel
theorem d_LW_law_732 : decode code 732 = .ok (.iadd, 1) := by decide +kernel
theorem d_LW_law_733 : decode code 733 = .ok (.iaload, 1) := by decide +kernel
theorem d_LW_law_734 : decode code 734 = .ok (.aload_n 0, 1) := by decide +kernel
theorem d_LW_law_735 : decode code 735 = .ok (.iload 4, 2) := by decide +kernel
theorem d_LW_law_737 : decode code 737 = .ok (.iconst 2, 1) := by decide +kernel
theorem d_LW_law_738 : decode code 738 = .ok (.iadd, 1) := by decide +kernel
theorem d_LW_law_739 : decode code 739 = .ok (.iaload, 1) := by decide +kernel
theorem d_LW_law_740 : decode code 740 = .ok (.aload_n 0, 1) := by decide +kernel
theorem d_LW_law_741 : decode code 741 = .ok (.iload 4, 2) := by decide +kernel
theorem d_LW_law_743 : decode code 743 = .ok (.iconst 3, 1) := by decide +kernel
theorem d_LW_law_744 : decode code 744 = .ok (.iadd, 1) := by decide +kernel
theorem d_LW_law_745 : decode code 745 = .ok (.iaload, 1) := by decide +kernel
theorem d_LW_law_746 : decode code 746 = .ok (.invokevirtual 83, 3) := by decide +kernel
theorem d_LW_law_749 : decode code 749 = .ok (.aload_n 2, 1) := by decide +kernel
theorem d_LW_law_750 : decode code 750 = .ok (.aload_n 0, 1) := by decide +kernel
theorem d_LW_law_751 : decode code 751 = .ok (.iload 4, 2) := by decide +kernel
theorem d_LW_law_753 : decode code 753 = .ok (.iconst 1, 1) := by decide +kernel
theorem d_LW_law_754 : decode code 754 = .ok (.iadd, 1) := by decide +kernel
theorem d_LW_law_755 : decode code 755 = .ok (.iaload, 1) := by decide +kernel
theorem d_LW_law_756 : decode code 756 = .ok (.aload_n 0, 1) := by decide +kernel
theorem d_LW_law_757 : decode code 757 = .ok (.iload 4, 2) := by decide +kernel
theorem d_LW_law_759 : decode code 759 = .ok (.iconst 2, 1) := by decide +kernel
theorem d_LW_law_760 : decode code 760 = .ok (.iadd, 1) := by decide +kernel
theorem d_LW_law_761 : decode code 761 = .ok (.iaload, 1) := by decide +kernel
theorem d_LW_law_762 : decode code 762 = .ok (.aload_n 0, 1) := by decide +kernel
theorem d_LW_law_763 : decode code 763 = .ok (.iload 4, 2) := by decide +kernel
theorem d_LW_law_765 : decode code 765 = .ok (.iconst 3, 1) := by decide +kernel
theorem d_LW_law_766 : decode code 766 = .ok (.iadd, 1) := by decide +kernel
theorem d_LW_law_767 : decode code 767 = .ok (.iaload, 1) := by decide +kernel
theorem d_LW_law_768 : decode code 768 = .ok (.invokevirtual 87, 3) := by decide +kernel
theorem d_LW_law_771 : decode code 771 = .ok (.lcmp, 1) := by decide +kernel
theorem d_LW_law_772 : decode code 772 = .ok (.ifCond .eq 30, 3) := by decide +kernel
theorem d_LW_law_775 : decode code 775 = .ok (.iconst 0, 1) := by decide +kernel
theorem d_LW_law_776 : decode code 776 = .ok (.ireturn, 1) := by decide +kernel
theorem d_LW_law_777 : decode code 777 = .ok (.aload_n 1, 1) := by decide +kernel
theorem d_LW_law_778 : decode code 778 = .ok (.aload_n 0, 1) := by decide +kernel
theorem d_LW_law_779 : decode code 779 = .ok (.iload 4, 2) := by decide +kernel
theorem d_LW_law_781 : decode code 781 = .ok (.iconst 1, 1) := by decide +kernel
theorem d_LW_law_782 : decode code 782 = .ok (.iadd, 1) := by decide +kernel
theorem d_LW_law_783 : decode code 783 = .ok (.iaload, 1) := by decide +kernel
theorem d_LW_law_784 : decode code 784 = .ok (.invokevirtual 88, 3) := by decide +kernel
theorem d_LW_law_787 : decode code 787 = .ok (.aload_n 2, 1) := by decide +kernel
theorem d_LW_law_788 : decode code 788 = .ok (.aload_n 0, 1) := by decide +kernel
theorem d_LW_law_789 : decode code 789 = .ok (.iload 4, 2) := by decide +kernel
theorem d_LW_law_791 : decode code 791 = .ok (.iconst 1, 1) := by decide +kernel
theorem d_LW_law_792 : decode code 792 = .ok (.iadd, 1) := by decide +kernel
theorem d_LW_law_793 : decode code 793 = .ok (.iaload, 1) := by decide +kernel
theorem d_LW_law_794 : decode code 794 = .ok (.invokevirtual 91, 3) := by decide +kernel
theorem d_LW_law_797 : decode code 797 = .ok (.if_icmp .eq 5, 3) := by decide +kernel
theorem d_LW_law_800 : decode code 800 = .ok (.iconst 0, 1) := by decide +kernel
theorem d_LW_law_801 : decode code 801 = .ok (.ireturn, 1) := by decide +kernel
theorem d_LW_law_802 : decode code 802 = .ok (.iinc 4 6, 3) := by decide +kernel
theorem d_LW_law_805 : decode code 805 = .ok (.goto (-752), 3) := by decide +kernel
theorem d_LW_law_808 : decode code 808 = .ok (.iconst 1, 1) := by decide +kernel
theorem d_LW_law_809 : decode code 809 = .ok (.ireturn, 1) := by decide +kernel
