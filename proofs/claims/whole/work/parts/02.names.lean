/-- the words that a warm machine keeps, of all that the tables say -/
def WS0 : List Cond := lw_tbl.filter goodWord
theorem ws0_t {i : Nat} {w : Cond} (h : tables_1[i]? = some w) (g : goodWord w = true) : w ∈ WS0 := List.mem_filter.mpr ⟨List.mem_append_right _ (List.mem_of_getElem? h), g⟩
theorem ws0_s {i : Nat} {q : MethodName × Nat} (h : lw_privs[i]? = some q) (g : goodWord (.selects q.1.cls q.1 q.1) = true) : Cond.selects q.1.cls q.1 q.1 ∈ WS0 := List.mem_filter.mpr ⟨List.mem_append_left _ (List.mem_map.mpr ⟨q, List.mem_of_getElem? h, rfl⟩), g⟩
theorem ws0_good : ∀ w ∈ WS0, goodWord w = true := fun w h => (List.mem_filter.mp h).2
theorem q0 : (Jvm.Cond.initialized "TextPipelineLaw") ∈ WS0 := ws0_t (i := 0) (by decide +kernel) (by decide +kernel)
theorem q1 : (Jvm.Cond.initialized "TextPipeline") ∈ WS0 := ws0_t (i := 1) (by decide +kernel) (by decide +kernel)
theorem q2 : (Jvm.Cond.initialized "TextPipeline$Table") ∈ WS0 := ws0_t (i := 2) (by decide +kernel) (by decide +kernel)
theorem q3 : (Jvm.Cond.initialized "TextPipeline$Row") ∈ WS0 := ws0_t (i := 3) (by decide +kernel) (by decide +kernel)
theorem q4 : (Jvm.Cond.initialized "TextPipeline$Lines") ∈ WS0 := ws0_t (i := 4) (by decide +kernel) (by decide +kernel)
theorem q5 : (Jvm.Cond.initialized "TextPipeline$Sides") ∈ WS0 := ws0_t (i := 5) (by decide +kernel) (by decide +kernel)
theorem q6 : (Jvm.Cond.initialized "TextPipelineModel") ∈ WS0 := ws0_t (i := 6) (by decide +kernel) (by decide +kernel)
theorem q7 : (Jvm.Cond.initialized "java/lang/Throwable") ∈ WS0 := ws0_t (i := 7) (by decide +kernel) (by decide +kernel)
theorem q8 : (Jvm.Cond.initialized "java/lang/Exception") ∈ WS0 := ws0_t (i := 8) (by decide +kernel) (by decide +kernel)
theorem q9 : (Jvm.Cond.initialized "java/lang/RuntimeException") ∈ WS0 := ws0_t (i := 9) (by decide +kernel) (by decide +kernel)
theorem q10 : (Jvm.Cond.initialized "java/lang/IllegalArgumentException") ∈ WS0 := ws0_t (i := 10) (by decide +kernel) (by decide +kernel)
theorem q11 : (Jvm.Cond.initialized "java/lang/IllegalStateException") ∈ WS0 := ws0_t (i := 11) (by decide +kernel) (by decide +kernel)
theorem q12 : (Jvm.Cond.initialized "java/lang/Math") ∈ WS0 := ws0_t (i := 12) (by decide +kernel) (by decide +kernel)
theorem q13 : (Jvm.Cond.initialized "TextPipeline$Forms") ∈ WS0 := ws0_t (i := 13) (by decide +kernel) (by decide +kernel)
theorem q14 : (Jvm.Cond.initialized "java/lang/IndexOutOfBoundsException") ∈ WS0 := ws0_t (i := 14) (by decide +kernel) (by decide +kernel)
theorem q15 : (Jvm.Cond.initialized "TextPipeline$Clusters") ∈ WS0 := ws0_t (i := 15) (by decide +kernel) (by decide +kernel)
theorem q16 : (Jvm.Cond.initialized "TextPipeline$Keys") ∈ WS0 := ws0_t (i := 16) (by decide +kernel) (by decide +kernel)
theorem q17 : (Jvm.Cond.initialized "java/lang/Integer") ∈ WS0 := ws0_t (i := 17) (by decide +kernel) (by decide +kernel)
theorem q18 : (Jvm.Cond.classLink "TextPipelineLaw" (8 : Nat) "TextPipeline") ∈ WS0 := ws0_t (i := 18) (by decide +kernel) (by decide +kernel)
theorem q19 : (Jvm.Cond.instantiable "TextPipeline" (9 : Nat)) ∈ WS0 := ws0_t (i := 19) (by decide +kernel) (by decide +kernel)
theorem q20 : (Jvm.Cond.methodLink "TextPipelineLaw" (61 : Nat) ({ cls := "TextPipeline", name := "<init>", desc := "()V" } : Jvm.MethodName)) ∈ WS0 := ws0_t (i := 20) (by decide +kernel) (by decide +kernel)
theorem q21 : (Jvm.Cond.instanceMethod ({ cls := "TextPipeline", name := "<init>", desc := "()V" } : Jvm.MethodName)) ∈ WS0 := ws0_t (i := 21) (by decide +kernel) (by decide +kernel)
theorem q22 : (Jvm.Cond.code ({ cls := "TextPipeline", name := "<init>", desc := "()V" } : Jvm.MethodName) prog_1_method_1_code (2 : Nat) (Option.none : Option Jvm.ClassFile.FieldType)) ∈ WS0 := ws0_t (i := 22) (by decide +kernel) (by decide +kernel)
theorem q23 : (Jvm.Cond.methodLink "TextPipeline" (1 : Nat) ({ cls := "java/lang/Object", name := "<init>", desc := "()V" } : Jvm.MethodName)) ∈ WS0 := ws0_t (i := 23) (by decide +kernel) (by decide +kernel)
theorem q24 : (Jvm.Cond.instanceMethod ({ cls := "java/lang/Object", name := "<init>", desc := "()V" } : Jvm.MethodName)) ∈ WS0 := ws0_t (i := 24) (by decide +kernel) (by decide +kernel)
theorem q25 : (Jvm.Cond.code ({ cls := "java/lang/Object", name := "<init>", desc := "()V" } : Jvm.MethodName) object_method_1_code (1 : Nat) (Option.none : Option Jvm.ClassFile.FieldType)) ∈ WS0 := ws0_t (i := 25) (by decide +kernel) (by decide +kernel)
theorem q26 : (Jvm.Cond.classLink "TextPipeline" (7 : Nat) "TextPipeline$Table") ∈ WS0 := ws0_t (i := 26) (by decide +kernel) (by decide +kernel)
theorem q27 : (Jvm.Cond.instantiable "TextPipeline$Table" (7 : Nat)) ∈ WS0 := ws0_t (i := 27) (by decide +kernel) (by decide +kernel)
theorem q28 : (Jvm.Cond.methodLink "TextPipeline" (9 : Nat) ({ cls := "TextPipeline$Table", name := "<init>", desc := "()V" } : Jvm.MethodName)) ∈ WS0 := ws0_t (i := 28) (by decide +kernel) (by decide +kernel)
theorem q29 : (Jvm.Cond.instanceMethod ({ cls := "TextPipeline$Table", name := "<init>", desc := "()V" } : Jvm.MethodName)) ∈ WS0 := ws0_t (i := 29) (by decide +kernel) (by decide +kernel)
theorem q30 : (Jvm.Cond.code ({ cls := "TextPipeline$Table", name := "<init>", desc := "()V" } : Jvm.MethodName) prog_8_method_1_code (1 : Nat) (Option.none : Option Jvm.ClassFile.FieldType)) ∈ WS0 := ws0_t (i := 30) (by decide +kernel) (by decide +kernel)
theorem q31 : (Jvm.Cond.methodLink "TextPipeline$Table" (1 : Nat) ({ cls := "java/lang/Object", name := "<init>", desc := "()V" } : Jvm.MethodName)) ∈ WS0 := ws0_t (i := 31) (by decide +kernel) (by decide +kernel)
theorem q32 : (Jvm.Cond.fieldLink "TextPipeline$Table" (7 : Nat) "TextPipeline$Table" "GREATEST" "[I") ∈ WS0 := ws0_t (i := 32) (by decide +kernel) (by decide +kernel)
theorem q34 : (Jvm.Cond.classLink "TextPipeline$Table" (13 : Nat) "[[I") ∈ WS0 := ws0_t (i := 34) (by decide +kernel) (by decide +kernel)
theorem q36 : (Jvm.Cond.methodLink "TextPipeline$Table" (37 : Nat) ({ cls := "TextPipeline$Table", name := "fillFixedProperties", desc := "()V" } : Jvm.MethodName)) ∈ WS0 := ws0_t (i := 36) (by decide +kernel) (by decide +kernel)
theorem q38 : (Jvm.Cond.instanceMethod ({ cls := "TextPipeline$Table", name := "fillFixedProperties", desc := "()V" } : Jvm.MethodName)) ∈ WS0 := ws0_t (i := 38) (by decide +kernel) (by decide +kernel)
theorem q39 : (Jvm.Cond.code ({ cls := "TextPipeline$Table", name := "fillFixedProperties", desc := "()V" } : Jvm.MethodName) prog_8_method_21_code (3 : Nat) (Option.none : Option Jvm.ClassFile.FieldType)) ∈ WS0 := ws0_t (i := 39) (by decide +kernel) (by decide +kernel)
theorem q40 : (Jvm.Cond.methodLink "TextPipeline$Table" (40 : Nat) ({ cls := "TextPipeline$Table", name := "fillPartings", desc := "()V" } : Jvm.MethodName)) ∈ WS0 := ws0_t (i := 40) (by decide +kernel) (by decide +kernel)
theorem q42 : (Jvm.Cond.instanceMethod ({ cls := "TextPipeline$Table", name := "fillPartings", desc := "()V" } : Jvm.MethodName)) ∈ WS0 := ws0_t (i := 42) (by decide +kernel) (by decide +kernel)
theorem q43 : (Jvm.Cond.code ({ cls := "TextPipeline$Table", name := "fillPartings", desc := "()V" } : Jvm.MethodName) prog_8_method_22_code (2 : Nat) (Option.none : Option Jvm.ClassFile.FieldType)) ∈ WS0 := ws0_t (i := 43) (by decide +kernel) (by decide +kernel)
theorem q44 : (Jvm.Cond.methodLink "TextPipeline$Table" (53 : Nat) ({ cls := "TextPipeline$Table", name := "fillSyllable", desc := "(II)V" } : Jvm.MethodName)) ∈ WS0 := ws0_t (i := 44) (by decide +kernel) (by decide +kernel)
theorem q46 : (Jvm.Cond.instanceMethod ({ cls := "TextPipeline$Table", name := "fillSyllable", desc := "(II)V" } : Jvm.MethodName)) ∈ WS0 := ws0_t (i := 46) (by decide +kernel) (by decide +kernel)
theorem q47 : (Jvm.Cond.code ({ cls := "TextPipeline$Table", name := "fillSyllable", desc := "(II)V" } : Jvm.MethodName) prog_8_method_23_code (4 : Nat) (Option.none : Option Jvm.ClassFile.FieldType)) ∈ WS0 := ws0_t (i := 47) (by decide +kernel) (by decide +kernel)
theorem q48 : (Jvm.Cond.methodLink "TextPipeline$Table" (43 : Nat) ({ cls := "TextPipeline$Table", name := "partAll", desc := "()V" } : Jvm.MethodName)) ∈ WS0 := ws0_t (i := 48) (by decide +kernel) (by decide +kernel)
theorem q50 : (Jvm.Cond.instanceMethod ({ cls := "TextPipeline$Table", name := "partAll", desc := "()V" } : Jvm.MethodName)) ∈ WS0 := ws0_t (i := 50) (by decide +kernel) (by decide +kernel)
theorem q51 : (Jvm.Cond.code ({ cls := "TextPipeline$Table", name := "partAll", desc := "()V" } : Jvm.MethodName) prog_8_method_24_code (2 : Nat) (Option.none : Option Jvm.ClassFile.FieldType)) ∈ WS0 := ws0_t (i := 51) (by decide +kernel) (by decide +kernel)
theorem q52 : (Jvm.Cond.methodLink "TextPipeline$Table" (57 : Nat) ({ cls := "TextPipeline$Table", name := "addPart", desc := "(II)V" } : Jvm.MethodName)) ∈ WS0 := ws0_t (i := 52) (by decide +kernel) (by decide +kernel)
theorem q54 : (Jvm.Cond.instanceMethod ({ cls := "TextPipeline$Table", name := "addPart", desc := "(II)V" } : Jvm.MethodName)) ∈ WS0 := ws0_t (i := 54) (by decide +kernel) (by decide +kernel)
theorem q55 : (Jvm.Cond.code ({ cls := "TextPipeline$Table", name := "addPart", desc := "(II)V" } : Jvm.MethodName) prog_8_method_26_code (3 : Nat) (Option.none : Option Jvm.ClassFile.FieldType)) ∈ WS0 := ws0_t (i := 55) (by decide +kernel) (by decide +kernel)
theorem q56 : (Jvm.Cond.methodLink "TextPipeline$Table" (60 : Nat) ({ cls := "TextPipeline$Table", name := "addPartsOf", desc := "(II)V" } : Jvm.MethodName)) ∈ WS0 := ws0_t (i := 56) (by decide +kernel) (by decide +kernel)
theorem q58 : (Jvm.Cond.instanceMethod ({ cls := "TextPipeline$Table", name := "addPartsOf", desc := "(II)V" } : Jvm.MethodName)) ∈ WS0 := ws0_t (i := 58) (by decide +kernel) (by decide +kernel)
theorem q59 : (Jvm.Cond.code ({ cls := "TextPipeline$Table", name := "addPartsOf", desc := "(II)V" } : Jvm.MethodName) prog_8_method_25_code (4 : Nat) (Option.none : Option Jvm.ClassFile.FieldType)) ∈ WS0 := ws0_t (i := 59) (by decide +kernel) (by decide +kernel)
theorem q60 : (Jvm.Cond.methodLink "TextPipeline$Table" (63 : Nat) ({ cls := "TextPipeline$Table", name := "partOf", desc := "(II)I" } : Jvm.MethodName)) ∈ WS0 := ws0_t (i := 60) (by decide +kernel) (by decide +kernel)
theorem q61 : (Jvm.Cond.instanceMethod ({ cls := "TextPipeline$Table", name := "partOf", desc := "(II)I" } : Jvm.MethodName)) ∈ WS0 := ws0_t (i := 61) (by decide +kernel) (by decide +kernel)
theorem q62 : (Jvm.Cond.selects "TextPipeline$Table" ({ cls := "TextPipeline$Table", name := "partOf", desc := "(II)I" } : Jvm.MethodName) ({ cls := "TextPipeline$Table", name := "partOf", desc := "(II)I" } : Jvm.MethodName)) ∈ WS0 := ws0_t (i := 62) (by decide +kernel) (by decide +kernel)
theorem q63 : (Jvm.Cond.code ({ cls := "TextPipeline$Table", name := "partOf", desc := "(II)I" } : Jvm.MethodName) prog_8_method_19_code (3 : Nat) (Option.some Jvm.ClassFile.FieldType.int)) ∈ WS0 := ws0_t (i := 63) (by decide +kernel) (by decide +kernel)
theorem q64 : (Jvm.Cond.fieldLink "TextPipeline$Table" (15 : Nat) "TextPipeline$Table" "properties" "[[I") ∈ WS0 := ws0_t (i := 64) (by decide +kernel) (by decide +kernel)
theorem q65 : (Jvm.Cond.fieldLink "TextPipeline$Table" (18 : Nat) "TextPipeline$Table" "firstPart" "[I") ∈ WS0 := ws0_t (i := 65) (by decide +kernel) (by decide +kernel)
theorem q66 : (Jvm.Cond.fieldLink "TextPipeline$Table" (21 : Nat) "TextPipeline$Table" "secondPart" "[I") ∈ WS0 := ws0_t (i := 66) (by decide +kernel) (by decide +kernel)
theorem q67 : (Jvm.Cond.fieldLink "TextPipeline$Table" (24 : Nat) "TextPipeline$Table" "excluded" "[Z") ∈ WS0 := ws0_t (i := 67) (by decide +kernel) (by decide +kernel)
theorem q68 : (Jvm.Cond.fieldLink "TextPipeline$Table" (28 : Nat) "TextPipeline$Table" "parts" "[I") ∈ WS0 := ws0_t (i := 68) (by decide +kernel) (by decide +kernel)
theorem q69 : (Jvm.Cond.fieldLink "TextPipeline$Table" (31 : Nat) "TextPipeline$Table" "partCount" "[I") ∈ WS0 := ws0_t (i := 69) (by decide +kernel) (by decide +kernel)
theorem q70 : (Jvm.Cond.fieldLink "TextPipeline$Table" (34 : Nat) "TextPipeline$Table" "triedCount" "[I") ∈ WS0 := ws0_t (i := 70) (by decide +kernel) (by decide +kernel)
theorem q71 : (Jvm.Cond.laysFinal "TextPipeline$Table" "TextPipeline$Table" "properties" "[[I") ∈ WS0 := ws0_t (i := 71) (by decide +kernel) (by decide +kernel)
theorem q73 : (Jvm.Cond.laysFinal "TextPipeline$Table" "TextPipeline$Table" "firstPart" "[I") ∈ WS0 := ws0_t (i := 73) (by decide +kernel) (by decide +kernel)
theorem q75 : (Jvm.Cond.laysFinal "TextPipeline$Table" "TextPipeline$Table" "secondPart" "[I") ∈ WS0 := ws0_t (i := 75) (by decide +kernel) (by decide +kernel)
theorem q77 : (Jvm.Cond.laysFinal "TextPipeline$Table" "TextPipeline$Table" "excluded" "[Z") ∈ WS0 := ws0_t (i := 77) (by decide +kernel) (by decide +kernel)
theorem q79 : (Jvm.Cond.laysFinal "TextPipeline$Table" "TextPipeline$Table" "parts" "[I") ∈ WS0 := ws0_t (i := 79) (by decide +kernel) (by decide +kernel)
theorem q81 : (Jvm.Cond.laysFinal "TextPipeline$Table" "TextPipeline$Table" "partCount" "[I") ∈ WS0 := ws0_t (i := 81) (by decide +kernel) (by decide +kernel)
theorem q83 : (Jvm.Cond.laysFinal "TextPipeline$Table" "TextPipeline$Table" "triedCount" "[I") ∈ WS0 := ws0_t (i := 83) (by decide +kernel) (by decide +kernel)
theorem q86 : (Jvm.Cond.arrayClass Jvm.ClassFile.FieldType.int) ∈ WS0 := ws0_t (i := 86) (by decide +kernel) (by decide +kernel)
theorem q87 : (Jvm.Cond.arrayClass Jvm.ClassFile.FieldType.boolean) ∈ WS0 := ws0_t (i := 87) (by decide +kernel) (by decide +kernel)
theorem q88 : (Jvm.Cond.classLink "TextPipeline" (16 : Nat) "TextPipeline$Row") ∈ WS0 := ws0_t (i := 88) (by decide +kernel) (by decide +kernel)
theorem q89 : (Jvm.Cond.instantiable "TextPipeline$Row" (2 : Nat)) ∈ WS0 := ws0_t (i := 89) (by decide +kernel) (by decide +kernel)
theorem q90 : (Jvm.Cond.methodLink "TextPipeline" (18 : Nat) ({ cls := "TextPipeline$Row", name := "<init>", desc := "(I)V" } : Jvm.MethodName)) ∈ WS0 := ws0_t (i := 90) (by decide +kernel) (by decide +kernel)
theorem q91 : (Jvm.Cond.instanceMethod ({ cls := "TextPipeline$Row", name := "<init>", desc := "(I)V" } : Jvm.MethodName)) ∈ WS0 := ws0_t (i := 91) (by decide +kernel) (by decide +kernel)
theorem q92 : (Jvm.Cond.code ({ cls := "TextPipeline$Row", name := "<init>", desc := "(I)V" } : Jvm.MethodName) prog_6_method_1_code (2 : Nat) (Option.none : Option Jvm.ClassFile.FieldType)) ∈ WS0 := ws0_t (i := 92) (by decide +kernel) (by decide +kernel)
theorem q93 : (Jvm.Cond.methodLink "TextPipeline$Row" (1 : Nat) ({ cls := "java/lang/Object", name := "<init>", desc := "()V" } : Jvm.MethodName)) ∈ WS0 := ws0_t (i := 93) (by decide +kernel) (by decide +kernel)
theorem q94 : (Jvm.Cond.fieldLink "TextPipeline$Row" (7 : Nat) "TextPipeline$Row" "items" "[I") ∈ WS0 := ws0_t (i := 94) (by decide +kernel) (by decide +kernel)
theorem q95 : (Jvm.Cond.fieldLink "TextPipeline$Row" (13 : Nat) "TextPipeline$Row" "size" "I") ∈ WS0 := ws0_t (i := 95) (by decide +kernel) (by decide +kernel)
theorem q96 : (Jvm.Cond.laysFinal "TextPipeline$Row" "TextPipeline$Row" "items" "[I") ∈ WS0 := ws0_t (i := 96) (by decide +kernel) (by decide +kernel)
theorem q98 : (Jvm.Cond.lays "TextPipeline$Row" "TextPipeline$Row" "size" "I") ∈ WS0 := ws0_t (i := 98) (by decide +kernel) (by decide +kernel)
theorem q102 : (Jvm.Cond.classLink "TextPipeline" (45 : Nat) "TextPipeline$Lines") ∈ WS0 := ws0_t (i := 102) (by decide +kernel) (by decide +kernel)
theorem q103 : (Jvm.Cond.instantiable "TextPipeline$Lines" (1 : Nat)) ∈ WS0 := ws0_t (i := 103) (by decide +kernel) (by decide +kernel)
theorem q104 : (Jvm.Cond.methodLink "TextPipeline" (47 : Nat) ({ cls := "TextPipeline$Lines", name := "<init>", desc := "()V" } : Jvm.MethodName)) ∈ WS0 := ws0_t (i := 104) (by decide +kernel) (by decide +kernel)
theorem q105 : (Jvm.Cond.instanceMethod ({ cls := "TextPipeline$Lines", name := "<init>", desc := "()V" } : Jvm.MethodName)) ∈ WS0 := ws0_t (i := 105) (by decide +kernel) (by decide +kernel)
theorem q106 : (Jvm.Cond.code ({ cls := "TextPipeline$Lines", name := "<init>", desc := "()V" } : Jvm.MethodName) prog_5_method_1_code (1 : Nat) (Option.none : Option Jvm.ClassFile.FieldType)) ∈ WS0 := ws0_t (i := 106) (by decide +kernel) (by decide +kernel)
theorem q107 : (Jvm.Cond.methodLink "TextPipeline$Lines" (3 : Nat) ({ cls := "java/lang/Object", name := "<init>", desc := "()V" } : Jvm.MethodName)) ∈ WS0 := ws0_t (i := 107) (by decide +kernel) (by decide +kernel)
theorem q108 : (Jvm.Cond.fieldLink "TextPipeline$Lines" (9 : Nat) "TextPipeline$Lines" "kinds" "[I") ∈ WS0 := ws0_t (i := 108) (by decide +kernel) (by decide +kernel)
theorem q109 : (Jvm.Cond.laysFinal "TextPipeline$Lines" "TextPipeline$Lines" "kinds" "[I") ∈ WS0 := ws0_t (i := 109) (by decide +kernel) (by decide +kernel)
theorem q112 : (Jvm.Cond.classLink "TextPipeline" (52 : Nat) "TextPipeline$Sides") ∈ WS0 := ws0_t (i := 112) (by decide +kernel) (by decide +kernel)
theorem q113 : (Jvm.Cond.instantiable "TextPipeline$Sides" (3 : Nat)) ∈ WS0 := ws0_t (i := 113) (by decide +kernel) (by decide +kernel)
theorem q114 : (Jvm.Cond.methodLink "TextPipeline" (54 : Nat) ({ cls := "TextPipeline$Sides", name := "<init>", desc := "()V" } : Jvm.MethodName)) ∈ WS0 := ws0_t (i := 114) (by decide +kernel) (by decide +kernel)
theorem q115 : (Jvm.Cond.instanceMethod ({ cls := "TextPipeline$Sides", name := "<init>", desc := "()V" } : Jvm.MethodName)) ∈ WS0 := ws0_t (i := 115) (by decide +kernel) (by decide +kernel)
theorem q116 : (Jvm.Cond.code ({ cls := "TextPipeline$Sides", name := "<init>", desc := "()V" } : Jvm.MethodName) prog_7_method_1_code (1 : Nat) (Option.none : Option Jvm.ClassFile.FieldType)) ∈ WS0 := ws0_t (i := 116) (by decide +kernel) (by decide +kernel)
theorem q117 : (Jvm.Cond.methodLink "TextPipeline$Sides" (3 : Nat) ({ cls := "java/lang/Object", name := "<init>", desc := "()V" } : Jvm.MethodName)) ∈ WS0 := ws0_t (i := 117) (by decide +kernel) (by decide +kernel)
theorem q118 : (Jvm.Cond.fieldLink "TextPipeline$Sides" (9 : Nat) "TextPipeline$Sides" "kinds" "[I") ∈ WS0 := ws0_t (i := 118) (by decide +kernel) (by decide +kernel)
theorem q119 : (Jvm.Cond.fieldLink "TextPipeline$Sides" (15 : Nat) "TextPipeline$Sides" "levels" "[I") ∈ WS0 := ws0_t (i := 119) (by decide +kernel) (by decide +kernel)
theorem q120 : (Jvm.Cond.fieldLink "TextPipeline$Sides" (18 : Nat) "TextPipeline$Sides" "places" "[I") ∈ WS0 := ws0_t (i := 120) (by decide +kernel) (by decide +kernel)
theorem q121 : (Jvm.Cond.laysFinal "TextPipeline$Sides" "TextPipeline$Sides" "kinds" "[I") ∈ WS0 := ws0_t (i := 121) (by decide +kernel) (by decide +kernel)
theorem q123 : (Jvm.Cond.laysFinal "TextPipeline$Sides" "TextPipeline$Sides" "levels" "[I") ∈ WS0 := ws0_t (i := 123) (by decide +kernel) (by decide +kernel)
theorem q125 : (Jvm.Cond.laysFinal "TextPipeline$Sides" "TextPipeline$Sides" "places" "[I") ∈ WS0 := ws0_t (i := 125) (by decide +kernel) (by decide +kernel)
theorem q128 : (Jvm.Cond.fieldLink "TextPipeline" (10 : Nat) "TextPipeline" "table" "LTextPipeline$Table;") ∈ WS0 := ws0_t (i := 128) (by decide +kernel) (by decide +kernel)
theorem q129 : (Jvm.Cond.fieldLink "TextPipeline" (21 : Nat) "TextPipeline" "text" "LTextPipeline$Row;") ∈ WS0 := ws0_t (i := 129) (by decide +kernel) (by decide +kernel)
theorem q130 : (Jvm.Cond.fieldLink "TextPipeline" (25 : Nat) "TextPipeline" "kept" "[LTextPipeline$Row;") ∈ WS0 := ws0_t (i := 130) (by decide +kernel) (by decide +kernel)
theorem q131 : (Jvm.Cond.fieldLink "TextPipeline" (31 : Nat) "TextPipeline" "form" "LTextPipeline$Row;") ∈ WS0 := ws0_t (i := 131) (by decide +kernel) (by decide +kernel)
theorem q132 : (Jvm.Cond.fieldLink "TextPipeline" (34 : Nat) "TextPipeline" "keptForm" "LTextPipeline$Row;") ∈ WS0 := ws0_t (i := 132) (by decide +kernel) (by decide +kernel)
theorem q133 : (Jvm.Cond.fieldLink "TextPipeline" (39 : Nat) "TextPipeline" "numbers" "LTextPipeline$Row;") ∈ WS0 := ws0_t (i := 133) (by decide +kernel) (by decide +kernel)
theorem q134 : (Jvm.Cond.fieldLink "TextPipeline" (42 : Nat) "TextPipeline" "keptNumbers" "LTextPipeline$Row;") ∈ WS0 := ws0_t (i := 134) (by decide +kernel) (by decide +kernel)
theorem q135 : (Jvm.Cond.fieldLink "TextPipeline" (48 : Nat) "TextPipeline" "lines" "LTextPipeline$Lines;") ∈ WS0 := ws0_t (i := 135) (by decide +kernel) (by decide +kernel)
theorem q136 : (Jvm.Cond.fieldLink "TextPipeline" (55 : Nat) "TextPipeline" "sides" "LTextPipeline$Sides;") ∈ WS0 := ws0_t (i := 136) (by decide +kernel) (by decide +kernel)
theorem q137 : (Jvm.Cond.laysFinal "TextPipeline" "TextPipeline" "table" "LTextPipeline$Table;") ∈ WS0 := ws0_t (i := 137) (by decide +kernel) (by decide +kernel)
theorem q139 : (Jvm.Cond.laysFinal "TextPipeline" "TextPipeline" "text" "LTextPipeline$Row;") ∈ WS0 := ws0_t (i := 139) (by decide +kernel) (by decide +kernel)
theorem q141 : (Jvm.Cond.laysFinal "TextPipeline" "TextPipeline" "kept" "[LTextPipeline$Row;") ∈ WS0 := ws0_t (i := 141) (by decide +kernel) (by decide +kernel)
theorem q143 : (Jvm.Cond.laysFinal "TextPipeline" "TextPipeline" "form" "LTextPipeline$Row;") ∈ WS0 := ws0_t (i := 143) (by decide +kernel) (by decide +kernel)
theorem q145 : (Jvm.Cond.laysFinal "TextPipeline" "TextPipeline" "keptForm" "LTextPipeline$Row;") ∈ WS0 := ws0_t (i := 145) (by decide +kernel) (by decide +kernel)
theorem q147 : (Jvm.Cond.laysFinal "TextPipeline" "TextPipeline" "numbers" "LTextPipeline$Row;") ∈ WS0 := ws0_t (i := 147) (by decide +kernel) (by decide +kernel)
theorem q149 : (Jvm.Cond.laysFinal "TextPipeline" "TextPipeline" "keptNumbers" "LTextPipeline$Row;") ∈ WS0 := ws0_t (i := 149) (by decide +kernel) (by decide +kernel)
theorem q151 : (Jvm.Cond.laysFinal "TextPipeline" "TextPipeline" "lines" "LTextPipeline$Lines;") ∈ WS0 := ws0_t (i := 151) (by decide +kernel) (by decide +kernel)
theorem q153 : (Jvm.Cond.laysFinal "TextPipeline" "TextPipeline" "sides" "LTextPipeline$Sides;") ∈ WS0 := ws0_t (i := 153) (by decide +kernel) (by decide +kernel)
theorem q156 : (Jvm.Cond.methodLink "TextPipelineLaw" (83 : Nat) ({ cls := "TextPipeline", name := "wipe", desc := "()V" } : Jvm.MethodName)) ∈ WS0 := ws0_t (i := 156) (by decide +kernel) (by decide +kernel)
theorem q157 : (Jvm.Cond.instanceMethod ({ cls := "TextPipeline", name := "wipe", desc := "()V" } : Jvm.MethodName)) ∈ WS0 := ws0_t (i := 157) (by decide +kernel) (by decide +kernel)
theorem q158 : (Jvm.Cond.selects "TextPipeline" ({ cls := "TextPipeline", name := "wipe", desc := "()V" } : Jvm.MethodName) ({ cls := "TextPipeline", name := "wipe", desc := "()V" } : Jvm.MethodName)) ∈ WS0 := ws0_t (i := 158) (by decide +kernel) (by decide +kernel)
theorem q159 : (Jvm.Cond.code ({ cls := "TextPipeline", name := "wipe", desc := "()V" } : Jvm.MethodName) prog_1_method_5_code (1 : Nat) (Option.none : Option Jvm.ClassFile.FieldType)) ∈ WS0 := ws0_t (i := 159) (by decide +kernel) (by decide +kernel)
theorem q160 : (Jvm.Cond.methodLink "TextPipeline" (107 : Nat) ({ cls := "TextPipeline$Row", name := "cutTo", desc := "(I)V" } : Jvm.MethodName)) ∈ WS0 := ws0_t (i := 160) (by decide +kernel) (by decide +kernel)
theorem q161 : (Jvm.Cond.instanceMethod ({ cls := "TextPipeline$Row", name := "cutTo", desc := "(I)V" } : Jvm.MethodName)) ∈ WS0 := ws0_t (i := 161) (by decide +kernel) (by decide +kernel)
theorem q162 : (Jvm.Cond.selects "TextPipeline$Row" ({ cls := "TextPipeline$Row", name := "cutTo", desc := "(I)V" } : Jvm.MethodName) ({ cls := "TextPipeline$Row", name := "cutTo", desc := "(I)V" } : Jvm.MethodName)) ∈ WS0 := ws0_t (i := 162) (by decide +kernel) (by decide +kernel)
theorem q163 : (Jvm.Cond.code ({ cls := "TextPipeline$Row", name := "cutTo", desc := "(I)V" } : Jvm.MethodName) prog_6_method_7_code (2 : Nat) (Option.none : Option Jvm.ClassFile.FieldType)) ∈ WS0 := ws0_t (i := 163) (by decide +kernel) (by decide +kernel)
theorem q164 : (Jvm.Cond.methodLink "TextPipeline$Row" (21 : Nat) ({ cls := "java/lang/Math", name := "max", desc := "(II)I" } : Jvm.MethodName)) ∈ WS0 := ws0_t (i := 164) (by decide +kernel) (by decide +kernel)
theorem q165 : (Jvm.Cond.static ({ cls := "java/lang/Math", name := "max", desc := "(II)I" } : Jvm.MethodName)) ∈ WS0 := ws0_t (i := 165) (by decide +kernel) (by decide +kernel)
theorem q166 : (Jvm.Cond.code ({ cls := "java/lang/Math", name := "max", desc := "(II)I" } : Jvm.MethodName) prog_16_method_65_code (2 : Nat) (Option.some Jvm.ClassFile.FieldType.int)) ∈ WS0 := ws0_t (i := 166) (by decide +kernel) (by decide +kernel)
theorem q167 : (Jvm.Cond.methodLink "TextPipeline$Row" (27 : Nat) ({ cls := "java/lang/Math", name := "min", desc := "(II)I" } : Jvm.MethodName)) ∈ WS0 := ws0_t (i := 167) (by decide +kernel) (by decide +kernel)
theorem q168 : (Jvm.Cond.static ({ cls := "java/lang/Math", name := "min", desc := "(II)I" } : Jvm.MethodName)) ∈ WS0 := ws0_t (i := 168) (by decide +kernel) (by decide +kernel)
theorem q169 : (Jvm.Cond.code ({ cls := "java/lang/Math", name := "min", desc := "(II)I" } : Jvm.MethodName) prog_16_method_69_code (2 : Nat) (Option.some Jvm.ClassFile.FieldType.int)) ∈ WS0 := ws0_t (i := 169) (by decide +kernel) (by decide +kernel)
theorem q170 : (Jvm.Cond.methodLink "TextPipelineLaw" (97 : Nat) ({ cls := "TextPipeline", name := "clusters", desc := "()I" } : Jvm.MethodName)) ∈ WS0 := ws0_t (i := 170) (by decide +kernel) (by decide +kernel)
theorem q171 : (Jvm.Cond.instanceMethod ({ cls := "TextPipeline", name := "clusters", desc := "()I" } : Jvm.MethodName)) ∈ WS0 := ws0_t (i := 171) (by decide +kernel) (by decide +kernel)
theorem q172 : (Jvm.Cond.selects "TextPipeline" ({ cls := "TextPipeline", name := "clusters", desc := "()I" } : Jvm.MethodName) ({ cls := "TextPipeline", name := "clusters", desc := "()I" } : Jvm.MethodName)) ∈ WS0 := ws0_t (i := 172) (by decide +kernel) (by decide +kernel)
theorem q173 : (Jvm.Cond.code ({ cls := "TextPipeline", name := "clusters", desc := "()I" } : Jvm.MethodName) prog_1_method_9_code (3 : Nat) (Option.some Jvm.ClassFile.FieldType.int)) ∈ WS0 := ws0_t (i := 173) (by decide +kernel) (by decide +kernel)
theorem q174 : (Jvm.Cond.methodLink "TextPipeline" (98 : Nat) ({ cls := "TextPipeline$Row", name := "size", desc := "()I" } : Jvm.MethodName)) ∈ WS0 := ws0_t (i := 174) (by decide +kernel) (by decide +kernel)
theorem q175 : (Jvm.Cond.instanceMethod ({ cls := "TextPipeline$Row", name := "size", desc := "()I" } : Jvm.MethodName)) ∈ WS0 := ws0_t (i := 175) (by decide +kernel) (by decide +kernel)
theorem q176 : (Jvm.Cond.selects "TextPipeline$Row" ({ cls := "TextPipeline$Row", name := "size", desc := "()I" } : Jvm.MethodName) ({ cls := "TextPipeline$Row", name := "size", desc := "()I" } : Jvm.MethodName)) ∈ WS0 := ws0_t (i := 176) (by decide +kernel) (by decide +kernel)
theorem q177 : (Jvm.Cond.code ({ cls := "TextPipeline$Row", name := "size", desc := "()I" } : Jvm.MethodName) prog_6_method_2_code (1 : Nat) (Option.some Jvm.ClassFile.FieldType.int)) ∈ WS0 := ws0_t (i := 177) (by decide +kernel) (by decide +kernel)
theorem q178 : (Jvm.Cond.methodLink "TextPipeline" (134 : Nat) ({ cls := "TextPipeline$Clusters", name := "endsBefore", desc := "(LTextPipeline$Table;LTextPipeline$Row;I)Z" } : Jvm.MethodName)) ∈ WS0 := ws0_t (i := 178) (by decide +kernel) (by decide +kernel)
theorem q179 : (Jvm.Cond.static ({ cls := "TextPipeline$Clusters", name := "endsBefore", desc := "(LTextPipeline$Table;LTextPipeline$Row;I)Z" } : Jvm.MethodName)) ∈ WS0 := ws0_t (i := 179) (by decide +kernel) (by decide +kernel)
theorem q180 : (Jvm.Cond.code ({ cls := "TextPipeline$Clusters", name := "endsBefore", desc := "(LTextPipeline$Table;LTextPipeline$Row;I)Z" } : Jvm.MethodName) prog_2_method_2_code (5 : Nat) (Option.some Jvm.ClassFile.FieldType.boolean)) ∈ WS0 := ws0_t (i := 180) (by decide +kernel) (by decide +kernel)
theorem q181 : (Jvm.Cond.methodLink "TextPipeline$Clusters" (7 : Nat) ({ cls := "TextPipeline$Row", name := "size", desc := "()I" } : Jvm.MethodName)) ∈ WS0 := ws0_t (i := 181) (by decide +kernel) (by decide +kernel)
theorem q182 : (Jvm.Cond.methodLink "TextPipeline$Clusters" (13 : Nat) ({ cls := "TextPipeline$Row", name := "item", desc := "(I)I" } : Jvm.MethodName)) ∈ WS0 := ws0_t (i := 182) (by decide +kernel) (by decide +kernel)
theorem q183 : (Jvm.Cond.instanceMethod ({ cls := "TextPipeline$Row", name := "item", desc := "(I)I" } : Jvm.MethodName)) ∈ WS0 := ws0_t (i := 183) (by decide +kernel) (by decide +kernel)
theorem q184 : (Jvm.Cond.selects "TextPipeline$Row" ({ cls := "TextPipeline$Row", name := "item", desc := "(I)I" } : Jvm.MethodName) ({ cls := "TextPipeline$Row", name := "item", desc := "(I)I" } : Jvm.MethodName)) ∈ WS0 := ws0_t (i := 184) (by decide +kernel) (by decide +kernel)
theorem q185 : (Jvm.Cond.code ({ cls := "TextPipeline$Row", name := "item", desc := "(I)I" } : Jvm.MethodName) prog_6_method_3_code (2 : Nat) (Option.some Jvm.ClassFile.FieldType.int)) ∈ WS0 := ws0_t (i := 185) (by decide +kernel) (by decide +kernel)
theorem q186 : (Jvm.Cond.methodLink "TextPipeline$Clusters" (17 : Nat) ({ cls := "TextPipeline$Table", name := "clusterClass", desc := "(I)I" } : Jvm.MethodName)) ∈ WS0 := ws0_t (i := 186) (by decide +kernel) (by decide +kernel)
theorem q187 : (Jvm.Cond.instanceMethod ({ cls := "TextPipeline$Table", name := "clusterClass", desc := "(I)I" } : Jvm.MethodName)) ∈ WS0 := ws0_t (i := 187) (by decide +kernel) (by decide +kernel)
theorem q188 : (Jvm.Cond.selects "TextPipeline$Table" ({ cls := "TextPipeline$Table", name := "clusterClass", desc := "(I)I" } : Jvm.MethodName) ({ cls := "TextPipeline$Table", name := "clusterClass", desc := "(I)I" } : Jvm.MethodName)) ∈ WS0 := ws0_t (i := 188) (by decide +kernel) (by decide +kernel)
theorem q189 : (Jvm.Cond.code ({ cls := "TextPipeline$Table", name := "clusterClass", desc := "(I)I" } : Jvm.MethodName) prog_8_method_14_code (2 : Nat) (Option.some Jvm.ClassFile.FieldType.int)) ∈ WS0 := ws0_t (i := 189) (by decide +kernel) (by decide +kernel)
theorem q190 : (Jvm.Cond.methodLink "TextPipeline$Clusters" (24 : Nat) ({ cls := "TextPipeline$Clusters", name := "standsAlone", desc := "(I)Z" } : Jvm.MethodName)) ∈ WS0 := ws0_t (i := 190) (by decide +kernel) (by decide +kernel)
theorem q191 : (Jvm.Cond.static ({ cls := "TextPipeline$Clusters", name := "standsAlone", desc := "(I)Z" } : Jvm.MethodName)) ∈ WS0 := ws0_t (i := 191) (by decide +kernel) (by decide +kernel)
theorem q192 : (Jvm.Cond.code ({ cls := "TextPipeline$Clusters", name := "standsAlone", desc := "(I)Z" } : Jvm.MethodName) prog_2_method_3_code (1 : Nat) (Option.some Jvm.ClassFile.FieldType.boolean)) ∈ WS0 := ws0_t (i := 192) (by decide +kernel) (by decide +kernel)
theorem q193 : (Jvm.Cond.methodLink "TextPipeline$Clusters" (28 : Nat) ({ cls := "TextPipeline$Clusters", name := "staysInSyllable", desc := "(II)Z" } : Jvm.MethodName)) ∈ WS0 := ws0_t (i := 193) (by decide +kernel) (by decide +kernel)
theorem q194 : (Jvm.Cond.static ({ cls := "TextPipeline$Clusters", name := "staysInSyllable", desc := "(II)Z" } : Jvm.MethodName)) ∈ WS0 := ws0_t (i := 194) (by decide +kernel) (by decide +kernel)
theorem q195 : (Jvm.Cond.code ({ cls := "TextPipeline$Clusters", name := "staysInSyllable", desc := "(II)Z" } : Jvm.MethodName) prog_2_method_4_code (2 : Nat) (Option.some Jvm.ClassFile.FieldType.boolean)) ∈ WS0 := ws0_t (i := 195) (by decide +kernel) (by decide +kernel)
theorem q196 : (Jvm.Cond.methodLink "TextPipeline$Clusters" (42 : Nat) ({ cls := "TextPipeline$Table", name := "isLead", desc := "(I)Z" } : Jvm.MethodName)) ∈ WS0 := ws0_t (i := 196) (by decide +kernel) (by decide +kernel)
theorem q197 : (Jvm.Cond.static ({ cls := "TextPipeline$Table", name := "isLead", desc := "(I)Z" } : Jvm.MethodName)) ∈ WS0 := ws0_t (i := 197) (by decide +kernel) (by decide +kernel)
theorem q198 : (Jvm.Cond.code ({ cls := "TextPipeline$Table", name := "isLead", desc := "(I)Z" } : Jvm.MethodName) prog_8_method_5_code (1 : Nat) (Option.some Jvm.ClassFile.FieldType.boolean)) ∈ WS0 := ws0_t (i := 198) (by decide +kernel) (by decide +kernel)
theorem q199 : (Jvm.Cond.methodLink "TextPipeline$Clusters" (45 : Nat) ({ cls := "TextPipeline$Table", name := "isVowel", desc := "(I)Z" } : Jvm.MethodName)) ∈ WS0 := ws0_t (i := 199) (by decide +kernel) (by decide +kernel)
theorem q200 : (Jvm.Cond.static ({ cls := "TextPipeline$Table", name := "isVowel", desc := "(I)Z" } : Jvm.MethodName)) ∈ WS0 := ws0_t (i := 200) (by decide +kernel) (by decide +kernel)
theorem q201 : (Jvm.Cond.code ({ cls := "TextPipeline$Table", name := "isVowel", desc := "(I)Z" } : Jvm.MethodName) prog_8_method_6_code (1 : Nat) (Option.some Jvm.ClassFile.FieldType.boolean)) ∈ WS0 := ws0_t (i := 201) (by decide +kernel) (by decide +kernel)
theorem q202 : (Jvm.Cond.methodLink "TextPipeline$Clusters" (48 : Nat) ({ cls := "TextPipeline$Table", name := "isSyllable", desc := "(I)Z" } : Jvm.MethodName)) ∈ WS0 := ws0_t (i := 202) (by decide +kernel) (by decide +kernel)
theorem q203 : (Jvm.Cond.static ({ cls := "TextPipeline$Table", name := "isSyllable", desc := "(I)Z" } : Jvm.MethodName)) ∈ WS0 := ws0_t (i := 203) (by decide +kernel) (by decide +kernel)
theorem q204 : (Jvm.Cond.code ({ cls := "TextPipeline$Table", name := "isSyllable", desc := "(I)Z" } : Jvm.MethodName) prog_8_method_8_code (1 : Nat) (Option.some Jvm.ClassFile.FieldType.boolean)) ∈ WS0 := ws0_t (i := 204) (by decide +kernel) (by decide +kernel)
theorem q205 : (Jvm.Cond.methodLink "TextPipeline$Clusters" (51 : Nat) ({ cls := "TextPipeline$Table", name := "hasTail", desc := "(I)Z" } : Jvm.MethodName)) ∈ WS0 := ws0_t (i := 205) (by decide +kernel) (by decide +kernel)
theorem q206 : (Jvm.Cond.static ({ cls := "TextPipeline$Table", name := "hasTail", desc := "(I)Z" } : Jvm.MethodName)) ∈ WS0 := ws0_t (i := 206) (by decide +kernel) (by decide +kernel)
theorem q207 : (Jvm.Cond.code ({ cls := "TextPipeline$Table", name := "hasTail", desc := "(I)Z" } : Jvm.MethodName) prog_8_method_9_code (1 : Nat) (Option.some Jvm.ClassFile.FieldType.boolean)) ∈ WS0 := ws0_t (i := 207) (by decide +kernel) (by decide +kernel)
theorem q208 : (Jvm.Cond.methodLink "TextPipeline$Table" (50 : Nat) ({ cls := "TextPipeline$Table", name := "isSyllable", desc := "(I)Z" } : Jvm.MethodName)) ∈ WS0 := ws0_t (i := 208) (by decide +kernel) (by decide +kernel)
theorem q209 : (Jvm.Cond.methodLink "TextPipeline$Clusters" (54 : Nat) ({ cls := "TextPipeline$Table", name := "isTail", desc := "(I)Z" } : Jvm.MethodName)) ∈ WS0 := ws0_t (i := 209) (by decide +kernel) (by decide +kernel)
theorem q210 : (Jvm.Cond.static ({ cls := "TextPipeline$Table", name := "isTail", desc := "(I)Z" } : Jvm.MethodName)) ∈ WS0 := ws0_t (i := 210) (by decide +kernel) (by decide +kernel)
theorem q211 : (Jvm.Cond.code ({ cls := "TextPipeline$Table", name := "isTail", desc := "(I)Z" } : Jvm.MethodName) prog_8_method_7_code (1 : Nat) (Option.some Jvm.ClassFile.FieldType.boolean)) ∈ WS0 := ws0_t (i := 211) (by decide +kernel) (by decide +kernel)
theorem q212 : (Jvm.Cond.methodLink "TextPipeline$Clusters" (32 : Nat) ({ cls := "TextPipeline$Clusters", name := "isAttached", desc := "(II)Z" } : Jvm.MethodName)) ∈ WS0 := ws0_t (i := 212) (by decide +kernel) (by decide +kernel)
theorem q213 : (Jvm.Cond.static ({ cls := "TextPipeline$Clusters", name := "isAttached", desc := "(II)Z" } : Jvm.MethodName)) ∈ WS0 := ws0_t (i := 213) (by decide +kernel) (by decide +kernel)
theorem q214 : (Jvm.Cond.code ({ cls := "TextPipeline$Clusters", name := "isAttached", desc := "(II)Z" } : Jvm.MethodName) prog_2_method_5_code (2 : Nat) (Option.some Jvm.ClassFile.FieldType.boolean)) ∈ WS0 := ws0_t (i := 214) (by decide +kernel) (by decide +kernel)
theorem q215 : (Jvm.Cond.methodLink "TextPipeline$Clusters" (35 : Nat) ({ cls := "TextPipeline$Clusters", name := "isJoinedPicture", desc := "(LTextPipeline$Table;LTextPipeline$Row;I)Z" } : Jvm.MethodName)) ∈ WS0 := ws0_t (i := 215) (by decide +kernel) (by decide +kernel)
theorem q216 : (Jvm.Cond.static ({ cls := "TextPipeline$Clusters", name := "isJoinedPicture", desc := "(LTextPipeline$Table;LTextPipeline$Row;I)Z" } : Jvm.MethodName)) ∈ WS0 := ws0_t (i := 216) (by decide +kernel) (by decide +kernel)
theorem q217 : (Jvm.Cond.code ({ cls := "TextPipeline$Clusters", name := "isJoinedPicture", desc := "(LTextPipeline$Table;LTextPipeline$Row;I)Z" } : Jvm.MethodName) prog_2_method_6_code (4 : Nat) (Option.some Jvm.ClassFile.FieldType.boolean)) ∈ WS0 := ws0_t (i := 217) (by decide +kernel) (by decide +kernel)
theorem q218 : (Jvm.Cond.methodLink "TextPipeline$Clusters" (39 : Nat) ({ cls := "TextPipeline$Clusters", name := "isSecondRegion", desc := "(LTextPipeline$Table;LTextPipeline$Row;I)Z" } : Jvm.MethodName)) ∈ WS0 := ws0_t (i := 218) (by decide +kernel) (by decide +kernel)
theorem q219 : (Jvm.Cond.static ({ cls := "TextPipeline$Clusters", name := "isSecondRegion", desc := "(LTextPipeline$Table;LTextPipeline$Row;I)Z" } : Jvm.MethodName)) ∈ WS0 := ws0_t (i := 219) (by decide +kernel) (by decide +kernel)
theorem q220 : (Jvm.Cond.code ({ cls := "TextPipeline$Clusters", name := "isSecondRegion", desc := "(LTextPipeline$Table;LTextPipeline$Row;I)Z" } : Jvm.MethodName) prog_2_method_7_code (4 : Nat) (Option.some Jvm.ClassFile.FieldType.boolean)) ∈ WS0 := ws0_t (i := 220) (by decide +kernel) (by decide +kernel)
theorem q221 : (Jvm.Cond.methodLink "TextPipelineLaw" (111 : Nat) ({ cls := "TextPipeline", name := "key", desc := "()I" } : Jvm.MethodName)) ∈ WS0 := ws0_t (i := 221) (by decide +kernel) (by decide +kernel)
theorem q222 : (Jvm.Cond.instanceMethod ({ cls := "TextPipeline", name := "key", desc := "()I" } : Jvm.MethodName)) ∈ WS0 := ws0_t (i := 222) (by decide +kernel) (by decide +kernel)
theorem q223 : (Jvm.Cond.selects "TextPipeline" ({ cls := "TextPipeline", name := "key", desc := "()I" } : Jvm.MethodName) ({ cls := "TextPipeline", name := "key", desc := "()I" } : Jvm.MethodName)) ∈ WS0 := ws0_t (i := 223) (by decide +kernel) (by decide +kernel)
theorem q224 : (Jvm.Cond.code ({ cls := "TextPipeline", name := "key", desc := "()I" } : Jvm.MethodName) prog_1_method_13_code (1 : Nat) (Option.some Jvm.ClassFile.FieldType.int)) ∈ WS0 := ws0_t (i := 224) (by decide +kernel) (by decide +kernel)
theorem q225 : (Jvm.Cond.methodLink "TextPipeline" (157 : Nat) ({ cls := "TextPipeline", name := "fillOwnKey", desc := "()V" } : Jvm.MethodName)) ∈ WS0 := ws0_t (i := 225) (by decide +kernel) (by decide +kernel)
theorem q227 : (Jvm.Cond.instanceMethod ({ cls := "TextPipeline", name := "fillOwnKey", desc := "()V" } : Jvm.MethodName)) ∈ WS0 := ws0_t (i := 227) (by decide +kernel) (by decide +kernel)
theorem q228 : (Jvm.Cond.code ({ cls := "TextPipeline", name := "fillOwnKey", desc := "()V" } : Jvm.MethodName) prog_1_method_18_code (1 : Nat) (Option.none : Option Jvm.ClassFile.FieldType)) ∈ WS0 := ws0_t (i := 228) (by decide +kernel) (by decide +kernel)
theorem q229 : (Jvm.Cond.methodLink "TextPipeline" (110 : Nat) ({ cls := "TextPipeline$Forms", name := "fillParted", desc := "(LTextPipeline$Table;LTextPipeline$Row;LTextPipeline$Row;)V" } : Jvm.MethodName)) ∈ WS0 := ws0_t (i := 229) (by decide +kernel) (by decide +kernel)
theorem q230 : (Jvm.Cond.static ({ cls := "TextPipeline$Forms", name := "fillParted", desc := "(LTextPipeline$Table;LTextPipeline$Row;LTextPipeline$Row;)V" } : Jvm.MethodName)) ∈ WS0 := ws0_t (i := 230) (by decide +kernel) (by decide +kernel)
theorem q231 : (Jvm.Cond.code ({ cls := "TextPipeline$Forms", name := "fillParted", desc := "(LTextPipeline$Table;LTextPipeline$Row;LTextPipeline$Row;)V" } : Jvm.MethodName) prog_3_method_2_code (6 : Nat) (Option.none : Option Jvm.ClassFile.FieldType)) ∈ WS0 := ws0_t (i := 231) (by decide +kernel) (by decide +kernel)
theorem q232 : (Jvm.Cond.methodLink "TextPipeline$Forms" (11 : Nat) ({ cls := "TextPipeline$Row", name := "cutTo", desc := "(I)V" } : Jvm.MethodName)) ∈ WS0 := ws0_t (i := 232) (by decide +kernel) (by decide +kernel)
theorem q233 : (Jvm.Cond.methodLink "TextPipeline$Forms" (17 : Nat) ({ cls := "TextPipeline$Row", name := "size", desc := "()I" } : Jvm.MethodName)) ∈ WS0 := ws0_t (i := 233) (by decide +kernel) (by decide +kernel)
theorem q234 : (Jvm.Cond.methodLink "TextPipeline$Forms" (21 : Nat) ({ cls := "TextPipeline$Row", name := "item", desc := "(I)I" } : Jvm.MethodName)) ∈ WS0 := ws0_t (i := 234) (by decide +kernel) (by decide +kernel)
theorem q235 : (Jvm.Cond.methodLink "TextPipeline$Forms" (25 : Nat) ({ cls := "TextPipeline$Table", name := "partsOf", desc := "(I)I" } : Jvm.MethodName)) ∈ WS0 := ws0_t (i := 235) (by decide +kernel) (by decide +kernel)
theorem q236 : (Jvm.Cond.instanceMethod ({ cls := "TextPipeline$Table", name := "partsOf", desc := "(I)I" } : Jvm.MethodName)) ∈ WS0 := ws0_t (i := 236) (by decide +kernel) (by decide +kernel)
theorem q237 : (Jvm.Cond.selects "TextPipeline$Table" ({ cls := "TextPipeline$Table", name := "partsOf", desc := "(I)I" } : Jvm.MethodName) ({ cls := "TextPipeline$Table", name := "partsOf", desc := "(I)I" } : Jvm.MethodName)) ∈ WS0 := ws0_t (i := 237) (by decide +kernel) (by decide +kernel)
theorem q238 : (Jvm.Cond.code ({ cls := "TextPipeline$Table", name := "partsOf", desc := "(I)I" } : Jvm.MethodName) prog_8_method_18_code (2 : Nat) (Option.some Jvm.ClassFile.FieldType.int)) ∈ WS0 := ws0_t (i := 238) (by decide +kernel) (by decide +kernel)
theorem q239 : (Jvm.Cond.methodLink "TextPipeline$Forms" (28 : Nat) ({ cls := "TextPipeline$Table", name := "partOf", desc := "(II)I" } : Jvm.MethodName)) ∈ WS0 := ws0_t (i := 239) (by decide +kernel) (by decide +kernel)
theorem q240 : (Jvm.Cond.methodLink "TextPipeline$Forms" (32 : Nat) ({ cls := "TextPipeline$Forms", name := "insertByRank", desc := "(LTextPipeline$Table;LTextPipeline$Row;I)V" } : Jvm.MethodName)) ∈ WS0 := ws0_t (i := 240) (by decide +kernel) (by decide +kernel)
theorem q241 : (Jvm.Cond.static ({ cls := "TextPipeline$Forms", name := "insertByRank", desc := "(LTextPipeline$Table;LTextPipeline$Row;I)V" } : Jvm.MethodName)) ∈ WS0 := ws0_t (i := 241) (by decide +kernel) (by decide +kernel)
theorem q242 : (Jvm.Cond.code ({ cls := "TextPipeline$Forms", name := "insertByRank", desc := "(LTextPipeline$Table;LTextPipeline$Row;I)V" } : Jvm.MethodName) prog_3_method_4_code (5 : Nat) (Option.none : Option Jvm.ClassFile.FieldType)) ∈ WS0 := ws0_t (i := 242) (by decide +kernel) (by decide +kernel)
theorem q243 : (Jvm.Cond.methodLink "TextPipeline$Forms" (38 : Nat) ({ cls := "TextPipeline$Table", name := "rank", desc := "(I)I" } : Jvm.MethodName)) ∈ WS0 := ws0_t (i := 243) (by decide +kernel) (by decide +kernel)
theorem q244 : (Jvm.Cond.instanceMethod ({ cls := "TextPipeline$Table", name := "rank", desc := "(I)I" } : Jvm.MethodName)) ∈ WS0 := ws0_t (i := 244) (by decide +kernel) (by decide +kernel)
theorem q245 : (Jvm.Cond.selects "TextPipeline$Table" ({ cls := "TextPipeline$Table", name := "rank", desc := "(I)I" } : Jvm.MethodName) ({ cls := "TextPipeline$Table", name := "rank", desc := "(I)I" } : Jvm.MethodName)) ∈ WS0 := ws0_t (i := 245) (by decide +kernel) (by decide +kernel)
theorem q246 : (Jvm.Cond.code ({ cls := "TextPipeline$Table", name := "rank", desc := "(I)I" } : Jvm.MethodName) prog_8_method_13_code (2 : Nat) (Option.some Jvm.ClassFile.FieldType.int)) ∈ WS0 := ws0_t (i := 246) (by decide +kernel) (by decide +kernel)
theorem q247 : (Jvm.Cond.methodLink "TextPipeline$Forms" (52 : Nat) ({ cls := "TextPipeline$Row", name := "insert", desc := "(II)V" } : Jvm.MethodName)) ∈ WS0 := ws0_t (i := 247) (by decide +kernel) (by decide +kernel)
theorem q248 : (Jvm.Cond.instanceMethod ({ cls := "TextPipeline$Row", name := "insert", desc := "(II)V" } : Jvm.MethodName)) ∈ WS0 := ws0_t (i := 248) (by decide +kernel) (by decide +kernel)
theorem q249 : (Jvm.Cond.selects "TextPipeline$Row" ({ cls := "TextPipeline$Row", name := "insert", desc := "(II)V" } : Jvm.MethodName) ({ cls := "TextPipeline$Row", name := "insert", desc := "(II)V" } : Jvm.MethodName)) ∈ WS0 := ws0_t (i := 249) (by decide +kernel) (by decide +kernel)
theorem q250 : (Jvm.Cond.code ({ cls := "TextPipeline$Row", name := "insert", desc := "(II)V" } : Jvm.MethodName) prog_6_method_6_code (4 : Nat) (Option.none : Option Jvm.ClassFile.FieldType)) ∈ WS0 := ws0_t (i := 250) (by decide +kernel) (by decide +kernel)
theorem q251 : (Jvm.Cond.methodLink "TextPipeline" (168 : Nat) ({ cls := "TextPipeline$Keys", name := "fill", desc := "(LTextPipeline$Table;LTextPipeline$Row;LTextPipeline$Row;)V" } : Jvm.MethodName)) ∈ WS0 := ws0_t (i := 251) (by decide +kernel) (by decide +kernel)
theorem q252 : (Jvm.Cond.static ({ cls := "TextPipeline$Keys", name := "fill", desc := "(LTextPipeline$Table;LTextPipeline$Row;LTextPipeline$Row;)V" } : Jvm.MethodName)) ∈ WS0 := ws0_t (i := 252) (by decide +kernel) (by decide +kernel)
theorem q253 : (Jvm.Cond.code ({ cls := "TextPipeline$Keys", name := "fill", desc := "(LTextPipeline$Table;LTextPipeline$Row;LTextPipeline$Row;)V" } : Jvm.MethodName) prog_4_method_2_code (6 : Nat) (Option.none : Option Jvm.ClassFile.FieldType)) ∈ WS0 := ws0_t (i := 253) (by decide +kernel) (by decide +kernel)
theorem q254 : (Jvm.Cond.methodLink "TextPipeline$Keys" (11 : Nat) ({ cls := "TextPipeline$Row", name := "cutTo", desc := "(I)V" } : Jvm.MethodName)) ∈ WS0 := ws0_t (i := 254) (by decide +kernel) (by decide +kernel)
theorem q255 : (Jvm.Cond.methodLink "TextPipeline$Keys" (17 : Nat) ({ cls := "TextPipeline$Row", name := "add", desc := "(I)V" } : Jvm.MethodName)) ∈ WS0 := ws0_t (i := 255) (by decide +kernel) (by decide +kernel)
theorem q256 : (Jvm.Cond.instanceMethod ({ cls := "TextPipeline$Row", name := "add", desc := "(I)V" } : Jvm.MethodName)) ∈ WS0 := ws0_t (i := 256) (by decide +kernel) (by decide +kernel)
theorem q257 : (Jvm.Cond.selects "TextPipeline$Row" ({ cls := "TextPipeline$Row", name := "add", desc := "(I)V" } : Jvm.MethodName) ({ cls := "TextPipeline$Row", name := "add", desc := "(I)V" } : Jvm.MethodName)) ∈ WS0 := ws0_t (i := 257) (by decide +kernel) (by decide +kernel)
theorem q258 : (Jvm.Cond.code ({ cls := "TextPipeline$Row", name := "add", desc := "(I)V" } : Jvm.MethodName) prog_6_method_5_code (2 : Nat) (Option.none : Option Jvm.ClassFile.FieldType)) ∈ WS0 := ws0_t (i := 258) (by decide +kernel) (by decide +kernel)
theorem q259 : (Jvm.Cond.methodLink "TextPipeline$Row" (17 : Nat) ({ cls := "TextPipeline$Row", name := "insert", desc := "(II)V" } : Jvm.MethodName)) ∈ WS0 := ws0_t (i := 259) (by decide +kernel) (by decide +kernel)
theorem q260 : (Jvm.Cond.methodLink "TextPipeline$Keys" (20 : Nat) ({ cls := "TextPipeline$Row", name := "size", desc := "()I" } : Jvm.MethodName)) ∈ WS0 := ws0_t (i := 260) (by decide +kernel) (by decide +kernel)
theorem q261 : (Jvm.Cond.methodLink "TextPipeline$Keys" (24 : Nat) ({ cls := "TextPipeline$Row", name := "item", desc := "(I)I" } : Jvm.MethodName)) ∈ WS0 := ws0_t (i := 261) (by decide +kernel) (by decide +kernel)
theorem q262 : (Jvm.Cond.methodLink "TextPipeline$Keys" (28 : Nat) ({ cls := "TextPipeline$Table", name := "weight", desc := "(II)I" } : Jvm.MethodName)) ∈ WS0 := ws0_t (i := 262) (by decide +kernel) (by decide +kernel)
theorem q263 : (Jvm.Cond.instanceMethod ({ cls := "TextPipeline$Table", name := "weight", desc := "(II)I" } : Jvm.MethodName)) ∈ WS0 := ws0_t (i := 263) (by decide +kernel) (by decide +kernel)
theorem q264 : (Jvm.Cond.selects "TextPipeline$Table" ({ cls := "TextPipeline$Table", name := "weight", desc := "(II)I" } : Jvm.MethodName) ({ cls := "TextPipeline$Table", name := "weight", desc := "(II)I" } : Jvm.MethodName)) ∈ WS0 := ws0_t (i := 264) (by decide +kernel) (by decide +kernel)
theorem q265 : (Jvm.Cond.code ({ cls := "TextPipeline$Table", name := "weight", desc := "(II)I" } : Jvm.MethodName) prog_8_method_17_code (3 : Nat) (Option.some Jvm.ClassFile.FieldType.int)) ∈ WS0 := ws0_t (i := 265) (by decide +kernel) (by decide +kernel)
theorem q266 : (Jvm.Cond.methodLink "TextPipelineLaw" (65 : Nat) ({ cls := "TextPipelineLaw", name := "set", desc := "(LTextPipeline;III)I" } : Jvm.MethodName)) ∈ WS0 := ws0_t (i := 266) (by decide +kernel) (by decide +kernel)
theorem q267 : (Jvm.Cond.static ({ cls := "TextPipelineLaw", name := "set", desc := "(LTextPipeline;III)I" } : Jvm.MethodName)) ∈ WS0 := ws0_t (i := 267) (by decide +kernel) (by decide +kernel)
theorem q269 : (Jvm.Cond.classLink "TextPipelineLaw" (13 : Nat) "java/lang/IllegalArgumentException") ∈ WS0 := ws0_t (i := 269) (by decide +kernel) (by decide +kernel)
theorem q270 : (Jvm.Cond.methodLink "TextPipelineLaw" (7 : Nat) ({ cls := "TextPipeline", name := "set", desc := "(III)V" } : Jvm.MethodName)) ∈ WS0 := ws0_t (i := 270) (by decide +kernel) (by decide +kernel)
theorem q271 : (Jvm.Cond.instanceMethod ({ cls := "TextPipeline", name := "set", desc := "(III)V" } : Jvm.MethodName)) ∈ WS0 := ws0_t (i := 271) (by decide +kernel) (by decide +kernel)
theorem q272 : (Jvm.Cond.selects "TextPipeline" ({ cls := "TextPipeline", name := "set", desc := "(III)V" } : Jvm.MethodName) ({ cls := "TextPipeline", name := "set", desc := "(III)V" } : Jvm.MethodName)) ∈ WS0 := ws0_t (i := 272) (by decide +kernel) (by decide +kernel)
theorem q273 : (Jvm.Cond.code ({ cls := "TextPipeline", name := "set", desc := "(III)V" } : Jvm.MethodName) prog_1_method_2_code (4 : Nat) (Option.none : Option Jvm.ClassFile.FieldType)) ∈ WS0 := ws0_t (i := 273) (by decide +kernel) (by decide +kernel)
theorem q274 : (Jvm.Cond.methodLink "TextPipeline" (59 : Nat) ({ cls := "TextPipeline$Table", name := "isSettable", desc := "(I)Z" } : Jvm.MethodName)) ∈ WS0 := ws0_t (i := 274) (by decide +kernel) (by decide +kernel)
theorem q275 : (Jvm.Cond.static ({ cls := "TextPipeline$Table", name := "isSettable", desc := "(I)Z" } : Jvm.MethodName)) ∈ WS0 := ws0_t (i := 275) (by decide +kernel) (by decide +kernel)
theorem q276 : (Jvm.Cond.code ({ cls := "TextPipeline$Table", name := "isSettable", desc := "(I)Z" } : Jvm.MethodName) prog_8_method_2_code (1 : Nat) (Option.some Jvm.ClassFile.FieldType.boolean)) ∈ WS0 := ws0_t (i := 276) (by decide +kernel) (by decide +kernel)
theorem q277 : (Jvm.Cond.methodLink "TextPipeline" (63 : Nat) ({ cls := "TextPipeline$Table", name := "isInRange", desc := "(II)Z" } : Jvm.MethodName)) ∈ WS0 := ws0_t (i := 277) (by decide +kernel) (by decide +kernel)
theorem q278 : (Jvm.Cond.static ({ cls := "TextPipeline$Table", name := "isInRange", desc := "(II)Z" } : Jvm.MethodName)) ∈ WS0 := ws0_t (i := 278) (by decide +kernel) (by decide +kernel)
theorem q279 : (Jvm.Cond.code ({ cls := "TextPipeline$Table", name := "isInRange", desc := "(II)Z" } : Jvm.MethodName) prog_8_method_3_code (2 : Nat) (Option.some Jvm.ClassFile.FieldType.boolean)) ∈ WS0 := ws0_t (i := 279) (by decide +kernel) (by decide +kernel)
theorem q280 : (Jvm.Cond.classLink "TextPipeline" (67 : Nat) "java/lang/IllegalArgumentException") ∈ WS0 := ws0_t (i := 280) (by decide +kernel) (by decide +kernel)
theorem q281 : (Jvm.Cond.instantiable "java/lang/IllegalArgumentException" (6 : Nat)) ∈ WS0 := ws0_t (i := 281) (by decide +kernel) (by decide +kernel)
theorem q289 : (Jvm.Cond.selects "java/lang/IllegalArgumentException" ({ cls := "java/lang/Throwable", name := "fillInStackTrace", desc := "(I)Ljava/lang/Throwable;" } : Jvm.MethodName) ({ cls := "java/lang/Throwable", name := "fillInStackTrace", desc := "(I)Ljava/lang/Throwable;" } : Jvm.MethodName)) ∈ WS0 := ws0_t (i := 289) (by decide +kernel) (by decide +kernel)
theorem q290 : (Jvm.Cond.selects "java/lang/IllegalArgumentException" ({ cls := "java/lang/Throwable", name := "fillInStackTrace", desc := "()Ljava/lang/Throwable;" } : Jvm.MethodName) ({ cls := "java/lang/Throwable", name := "fillInStackTrace", desc := "()Ljava/lang/Throwable;" } : Jvm.MethodName)) ∈ WS0 := ws0_t (i := 290) (by decide +kernel) (by decide +kernel)
theorem q291 : (Jvm.Cond.lays "java/lang/IllegalArgumentException" "java/lang/Throwable" "cause" "Ljava/lang/Throwable;") ∈ WS0 := ws0_t (i := 291) (by decide +kernel) (by decide +kernel)
theorem q292 : (Jvm.Cond.lays "java/lang/Throwable" "java/lang/Throwable" "cause" "Ljava/lang/Throwable;") ∈ WS0 := ws0_t (i := 292) (by decide +kernel) (by decide +kernel)
theorem q293 : (Jvm.Cond.lays "java/lang/IllegalArgumentException" "java/lang/Throwable" "stackTrace" "[Ljava/lang/StackTraceElement;") ∈ WS0 := ws0_t (i := 293) (by decide +kernel) (by decide +kernel)
theorem q294 : (Jvm.Cond.lays "java/lang/Throwable" "java/lang/Throwable" "stackTrace" "[Ljava/lang/StackTraceElement;") ∈ WS0 := ws0_t (i := 294) (by decide +kernel) (by decide +kernel)
theorem q295 : (Jvm.Cond.lays "java/lang/IllegalArgumentException" "java/lang/Throwable" "suppressedExceptions" "Ljava/util/List;") ∈ WS0 := ws0_t (i := 295) (by decide +kernel) (by decide +kernel)
theorem q296 : (Jvm.Cond.lays "java/lang/Throwable" "java/lang/Throwable" "suppressedExceptions" "Ljava/util/List;") ∈ WS0 := ws0_t (i := 296) (by decide +kernel) (by decide +kernel)
theorem q297 : (Jvm.Cond.lays "java/lang/IllegalArgumentException" "java/lang/Throwable" "detailMessage" "Ljava/lang/String;") ∈ WS0 := ws0_t (i := 297) (by decide +kernel) (by decide +kernel)
theorem q298 : (Jvm.Cond.lays "java/lang/Throwable" "java/lang/Throwable" "detailMessage" "Ljava/lang/String;") ∈ WS0 := ws0_t (i := 298) (by decide +kernel) (by decide +kernel)
theorem q299 : (Jvm.Cond.lays "java/lang/IllegalArgumentException" "java/lang/Throwable" "backtrace" "Ljava/lang/Object;") ∈ WS0 := ws0_t (i := 299) (by decide +kernel) (by decide +kernel)
theorem q300 : (Jvm.Cond.lays "java/lang/Throwable" "java/lang/Throwable" "backtrace" "Ljava/lang/Object;") ∈ WS0 := ws0_t (i := 300) (by decide +kernel) (by decide +kernel)
theorem q301 : (Jvm.Cond.fieldLink "java/lang/Throwable" (198 : Nat) "java/lang/Throwable" "backtrace" "Ljava/lang/Object;") ∈ WS0 := ws0_t (i := 301) (by decide +kernel) (by decide +kernel)
theorem q303 : (Jvm.Cond.instanceMethod ({ cls := "java/lang/Throwable", name := "<init>", desc := "()V" } : Jvm.MethodName)) ∈ WS0 := ws0_t (i := 303) (by decide +kernel) (by decide +kernel)
theorem q304 : (Jvm.Cond.code ({ cls := "java/lang/Throwable", name := "<init>", desc := "()V" } : Jvm.MethodName) prog_19_method_1_code (1 : Nat) (Option.none : Option Jvm.ClassFile.FieldType)) ∈ WS0 := ws0_t (i := 304) (by decide +kernel) (by decide +kernel)
theorem q305 : (Jvm.Cond.methodLink "java/lang/Throwable" (1 : Nat) ({ cls := "java/lang/Object", name := "<init>", desc := "()V" } : Jvm.MethodName)) ∈ WS0 := ws0_t (i := 305) (by decide +kernel) (by decide +kernel)
theorem q306 : (Jvm.Cond.fieldLink "java/lang/Throwable" (13 : Nat) "java/lang/Throwable" "UNASSIGNED_STACK" "[Ljava/lang/StackTraceElement;") ∈ WS0 := ws0_t (i := 306) (by decide +kernel) (by decide +kernel)
theorem q308 : (Jvm.Cond.fieldLink "java/lang/Throwable" (20 : Nat) "java/lang/Throwable" "SUPPRESSED_SENTINEL" "Ljava/util/List;") ∈ WS0 := ws0_t (i := 308) (by decide +kernel) (by decide +kernel)
theorem q310 : (Jvm.Cond.methodLink "java/lang/Throwable" (27 : Nat) ({ cls := "java/lang/Throwable", name := "fillInStackTrace", desc := "()Ljava/lang/Throwable;" } : Jvm.MethodName)) ∈ WS0 := ws0_t (i := 310) (by decide +kernel) (by decide +kernel)
theorem q311 : (Jvm.Cond.instanceMethod ({ cls := "java/lang/Throwable", name := "fillInStackTrace", desc := "()Ljava/lang/Throwable;" } : Jvm.MethodName)) ∈ WS0 := ws0_t (i := 311) (by decide +kernel) (by decide +kernel)
theorem q313 : (Jvm.Cond.selects "java/lang/IllegalStateException" ({ cls := "java/lang/Throwable", name := "fillInStackTrace", desc := "()Ljava/lang/Throwable;" } : Jvm.MethodName) ({ cls := "java/lang/Throwable", name := "fillInStackTrace", desc := "()Ljava/lang/Throwable;" } : Jvm.MethodName)) ∈ WS0 := ws0_t (i := 313) (by decide +kernel) (by decide +kernel)
theorem q314 : (Jvm.Cond.selects "java/lang/IndexOutOfBoundsException" ({ cls := "java/lang/Throwable", name := "fillInStackTrace", desc := "()Ljava/lang/Throwable;" } : Jvm.MethodName) ({ cls := "java/lang/Throwable", name := "fillInStackTrace", desc := "()Ljava/lang/Throwable;" } : Jvm.MethodName)) ∈ WS0 := ws0_t (i := 314) (by decide +kernel) (by decide +kernel)
theorem q316 : (Jvm.Cond.methodLink "java/lang/Throwable" (202 : Nat) ({ cls := "java/lang/Throwable", name := "fillInStackTrace", desc := "(I)Ljava/lang/Throwable;" } : Jvm.MethodName)) ∈ WS0 := ws0_t (i := 316) (by decide +kernel) (by decide +kernel)
theorem q318 : (Jvm.Cond.instanceMethod ({ cls := "java/lang/Throwable", name := "fillInStackTrace", desc := "(I)Ljava/lang/Throwable;" } : Jvm.MethodName)) ∈ WS0 := ws0_t (i := 318) (by decide +kernel) (by decide +kernel)
theorem q319 : (Jvm.Cond.instantiable "java/lang/Throwable" (6 : Nat)) ∈ WS0 := ws0_t (i := 319) (by decide +kernel) (by decide +kernel)
theorem q322 : (Jvm.Cond.methodLink "TextPipeline" (71 : Nat) ({ cls := "java/lang/IllegalArgumentException", name := "<init>", desc := "(Ljava/lang/String;)V" } : Jvm.MethodName)) ∈ WS0 := ws0_t (i := 322) (by decide +kernel) (by decide +kernel)
theorem q323 : (Jvm.Cond.instanceMethod ({ cls := "java/lang/IllegalArgumentException", name := "<init>", desc := "(Ljava/lang/String;)V" } : Jvm.MethodName)) ∈ WS0 := ws0_t (i := 323) (by decide +kernel) (by decide +kernel)
theorem q324 : (Jvm.Cond.code ({ cls := "java/lang/IllegalArgumentException", name := "<init>", desc := "(Ljava/lang/String;)V" } : Jvm.MethodName) prog_12_method_2_code (2 : Nat) (Option.none : Option Jvm.ClassFile.FieldType)) ∈ WS0 := ws0_t (i := 324) (by decide +kernel) (by decide +kernel)
theorem q325 : (Jvm.Cond.methodLink "java/lang/IllegalArgumentException" (7 : Nat) ({ cls := "java/lang/RuntimeException", name := "<init>", desc := "(Ljava/lang/String;)V" } : Jvm.MethodName)) ∈ WS0 := ws0_t (i := 325) (by decide +kernel) (by decide +kernel)
theorem q326 : (Jvm.Cond.instanceMethod ({ cls := "java/lang/RuntimeException", name := "<init>", desc := "(Ljava/lang/String;)V" } : Jvm.MethodName)) ∈ WS0 := ws0_t (i := 326) (by decide +kernel) (by decide +kernel)
theorem q327 : (Jvm.Cond.code ({ cls := "java/lang/RuntimeException", name := "<init>", desc := "(Ljava/lang/String;)V" } : Jvm.MethodName) prog_17_method_2_code (2 : Nat) (Option.none : Option Jvm.ClassFile.FieldType)) ∈ WS0 := ws0_t (i := 327) (by decide +kernel) (by decide +kernel)
theorem q328 : (Jvm.Cond.methodLink "java/lang/RuntimeException" (7 : Nat) ({ cls := "java/lang/Exception", name := "<init>", desc := "(Ljava/lang/String;)V" } : Jvm.MethodName)) ∈ WS0 := ws0_t (i := 328) (by decide +kernel) (by decide +kernel)
theorem q329 : (Jvm.Cond.instanceMethod ({ cls := "java/lang/Exception", name := "<init>", desc := "(Ljava/lang/String;)V" } : Jvm.MethodName)) ∈ WS0 := ws0_t (i := 329) (by decide +kernel) (by decide +kernel)
theorem q330 : (Jvm.Cond.code ({ cls := "java/lang/Exception", name := "<init>", desc := "(Ljava/lang/String;)V" } : Jvm.MethodName) prog_11_method_2_code (2 : Nat) (Option.none : Option Jvm.ClassFile.FieldType)) ∈ WS0 := ws0_t (i := 330) (by decide +kernel) (by decide +kernel)
theorem q331 : (Jvm.Cond.methodLink "java/lang/Exception" (7 : Nat) ({ cls := "java/lang/Throwable", name := "<init>", desc := "(Ljava/lang/String;)V" } : Jvm.MethodName)) ∈ WS0 := ws0_t (i := 331) (by decide +kernel) (by decide +kernel)
theorem q332 : (Jvm.Cond.instanceMethod ({ cls := "java/lang/Throwable", name := "<init>", desc := "(Ljava/lang/String;)V" } : Jvm.MethodName)) ∈ WS0 := ws0_t (i := 332) (by decide +kernel) (by decide +kernel)
theorem q333 : (Jvm.Cond.code ({ cls := "java/lang/Throwable", name := "<init>", desc := "(Ljava/lang/String;)V" } : Jvm.MethodName) prog_19_method_2_code (2 : Nat) (Option.none : Option Jvm.ClassFile.FieldType)) ∈ WS0 := ws0_t (i := 333) (by decide +kernel) (by decide +kernel)
theorem q334 : (Jvm.Cond.fieldLink "java/lang/Throwable" (198 : Nat) "java/lang/Throwable" "backtrace" "Ljava/lang/Object;") ∈ WS0 := ws0_t (i := 334) (by decide +kernel) (by decide +kernel)
theorem q335 : (Jvm.Cond.fieldLink "java/lang/Throwable" (31 : Nat) "java/lang/Throwable" "detailMessage" "Ljava/lang/String;") ∈ WS0 := ws0_t (i := 335) (by decide +kernel) (by decide +kernel)
theorem q336 : (Jvm.Cond.fieldLink "java/lang/Throwable" (7 : Nat) "java/lang/Throwable" "cause" "Ljava/lang/Throwable;") ∈ WS0 := ws0_t (i := 336) (by decide +kernel) (by decide +kernel)
theorem q337 : (Jvm.Cond.fieldLink "java/lang/Throwable" (17 : Nat) "java/lang/Throwable" "stackTrace" "[Ljava/lang/StackTraceElement;") ∈ WS0 := ws0_t (i := 337) (by decide +kernel) (by decide +kernel)
theorem q338 : (Jvm.Cond.fieldLink "java/lang/Throwable" (24 : Nat) "java/lang/Throwable" "suppressedExceptions" "Ljava/util/List;") ∈ WS0 := ws0_t (i := 338) (by decide +kernel) (by decide +kernel)
theorem q343 : (Jvm.Cond.lays "java/lang/IllegalArgumentException" "java/lang/Throwable" "depth" "I") ∈ WS0 := ws0_t (i := 343) (by decide +kernel) (by decide +kernel)
theorem q347 : (Jvm.Cond.arrayClass Jvm.ClassFile.FieldType.byte) ∈ WS0 := ws0_t (i := 347) (by decide +kernel) (by decide +kernel)
theorem q348 : (Jvm.Cond.methodLink "TextPipeline" (74 : Nat) ({ cls := "TextPipeline$Table", name := "change", desc := "(III)V" } : Jvm.MethodName)) ∈ WS0 := ws0_t (i := 348) (by decide +kernel) (by decide +kernel)
theorem q349 : (Jvm.Cond.instanceMethod ({ cls := "TextPipeline$Table", name := "change", desc := "(III)V" } : Jvm.MethodName)) ∈ WS0 := ws0_t (i := 349) (by decide +kernel) (by decide +kernel)
theorem q350 : (Jvm.Cond.selects "TextPipeline$Table" ({ cls := "TextPipeline$Table", name := "change", desc := "(III)V" } : Jvm.MethodName) ({ cls := "TextPipeline$Table", name := "change", desc := "(III)V" } : Jvm.MethodName)) ∈ WS0 := ws0_t (i := 350) (by decide +kernel) (by decide +kernel)
theorem q351 : (Jvm.Cond.code ({ cls := "TextPipeline$Table", name := "change", desc := "(III)V" } : Jvm.MethodName) prog_8_method_10_code (4 : Nat) (Option.none : Option Jvm.ClassFile.FieldType)) ∈ WS0 := ws0_t (i := 351) (by decide +kernel) (by decide +kernel)
theorem q352 : (Jvm.Cond.methodLink "TextPipelineLaw" (75 : Nat) ({ cls := "TextPipelineLaw", name := "part", desc := "(LTextPipeline;IIIZ)I" } : Jvm.MethodName)) ∈ WS0 := ws0_t (i := 352) (by decide +kernel) (by decide +kernel)
theorem q353 : (Jvm.Cond.static ({ cls := "TextPipelineLaw", name := "part", desc := "(LTextPipeline;IIIZ)I" } : Jvm.MethodName)) ∈ WS0 := ws0_t (i := 353) (by decide +kernel) (by decide +kernel)
theorem q355 : (Jvm.Cond.classLink "TextPipelineLaw" (19 : Nat) "java/lang/IllegalStateException") ∈ WS0 := ws0_t (i := 355) (by decide +kernel) (by decide +kernel)
theorem q356 : (Jvm.Cond.methodLink "TextPipelineLaw" (15 : Nat) ({ cls := "TextPipeline", name := "part", desc := "(IIIZ)V" } : Jvm.MethodName)) ∈ WS0 := ws0_t (i := 356) (by decide +kernel) (by decide +kernel)
theorem q357 : (Jvm.Cond.instanceMethod ({ cls := "TextPipeline", name := "part", desc := "(IIIZ)V" } : Jvm.MethodName)) ∈ WS0 := ws0_t (i := 357) (by decide +kernel) (by decide +kernel)
theorem q358 : (Jvm.Cond.selects "TextPipeline" ({ cls := "TextPipeline", name := "part", desc := "(IIIZ)V" } : Jvm.MethodName) ({ cls := "TextPipeline", name := "part", desc := "(IIIZ)V" } : Jvm.MethodName)) ∈ WS0 := ws0_t (i := 358) (by decide +kernel) (by decide +kernel)
theorem q359 : (Jvm.Cond.code ({ cls := "TextPipeline", name := "part", desc := "(IIIZ)V" } : Jvm.MethodName) prog_1_method_3_code (5 : Nat) (Option.none : Option Jvm.ClassFile.FieldType)) ∈ WS0 := ws0_t (i := 359) (by decide +kernel) (by decide +kernel)
theorem q360 : (Jvm.Cond.methodLink "TextPipeline" (78 : Nat) ({ cls := "TextPipeline$Table", name := "isParting", desc := "(III)Z" } : Jvm.MethodName)) ∈ WS0 := ws0_t (i := 360) (by decide +kernel) (by decide +kernel)
theorem q361 : (Jvm.Cond.static ({ cls := "TextPipeline$Table", name := "isParting", desc := "(III)Z" } : Jvm.MethodName)) ∈ WS0 := ws0_t (i := 361) (by decide +kernel) (by decide +kernel)
theorem q362 : (Jvm.Cond.code ({ cls := "TextPipeline$Table", name := "isParting", desc := "(III)Z" } : Jvm.MethodName) prog_8_method_4_code (3 : Nat) (Option.some Jvm.ClassFile.FieldType.boolean)) ∈ WS0 := ws0_t (i := 362) (by decide +kernel) (by decide +kernel)
theorem q363 : (Jvm.Cond.methodLink "TextPipeline$Table" (46 : Nat) ({ cls := "TextPipeline$Table", name := "isSettable", desc := "(I)Z" } : Jvm.MethodName)) ∈ WS0 := ws0_t (i := 363) (by decide +kernel) (by decide +kernel)
theorem q365 : (Jvm.Cond.methodLink "TextPipeline" (84 : Nat) ({ cls := "TextPipeline$Table", name := "staysSmall", desc := "(III)Z" } : Jvm.MethodName)) ∈ WS0 := ws0_t (i := 365) (by decide +kernel) (by decide +kernel)
theorem q366 : (Jvm.Cond.instanceMethod ({ cls := "TextPipeline$Table", name := "staysSmall", desc := "(III)Z" } : Jvm.MethodName)) ∈ WS0 := ws0_t (i := 366) (by decide +kernel) (by decide +kernel)
theorem q367 : (Jvm.Cond.selects "TextPipeline$Table" ({ cls := "TextPipeline$Table", name := "staysSmall", desc := "(III)Z" } : Jvm.MethodName) ({ cls := "TextPipeline$Table", name := "staysSmall", desc := "(III)Z" } : Jvm.MethodName)) ∈ WS0 := ws0_t (i := 367) (by decide +kernel) (by decide +kernel)
theorem q368 : (Jvm.Cond.code ({ cls := "TextPipeline$Table", name := "staysSmall", desc := "(III)Z" } : Jvm.MethodName) prog_8_method_11_code (7 : Nat) (Option.some Jvm.ClassFile.FieldType.boolean)) ∈ WS0 := ws0_t (i := 368) (by decide +kernel) (by decide +kernel)
theorem q369 : (Jvm.Cond.classLink "TextPipeline" (87 : Nat) "java/lang/IllegalStateException") ∈ WS0 := ws0_t (i := 369) (by decide +kernel) (by decide +kernel)
theorem q370 : (Jvm.Cond.instantiable "java/lang/IllegalStateException" (6 : Nat)) ∈ WS0 := ws0_t (i := 370) (by decide +kernel) (by decide +kernel)
theorem q372 : (Jvm.Cond.selects "java/lang/IllegalStateException" ({ cls := "java/lang/Throwable", name := "fillInStackTrace", desc := "(I)Ljava/lang/Throwable;" } : Jvm.MethodName) ({ cls := "java/lang/Throwable", name := "fillInStackTrace", desc := "(I)Ljava/lang/Throwable;" } : Jvm.MethodName)) ∈ WS0 := ws0_t (i := 372) (by decide +kernel) (by decide +kernel)
theorem q373 : (Jvm.Cond.lays "java/lang/IllegalStateException" "java/lang/Throwable" "cause" "Ljava/lang/Throwable;") ∈ WS0 := ws0_t (i := 373) (by decide +kernel) (by decide +kernel)
theorem q374 : (Jvm.Cond.lays "java/lang/IllegalStateException" "java/lang/Throwable" "stackTrace" "[Ljava/lang/StackTraceElement;") ∈ WS0 := ws0_t (i := 374) (by decide +kernel) (by decide +kernel)
theorem q375 : (Jvm.Cond.lays "java/lang/IllegalStateException" "java/lang/Throwable" "suppressedExceptions" "Ljava/util/List;") ∈ WS0 := ws0_t (i := 375) (by decide +kernel) (by decide +kernel)
theorem q376 : (Jvm.Cond.lays "java/lang/IllegalStateException" "java/lang/Throwable" "detailMessage" "Ljava/lang/String;") ∈ WS0 := ws0_t (i := 376) (by decide +kernel) (by decide +kernel)
theorem q377 : (Jvm.Cond.lays "java/lang/IllegalStateException" "java/lang/Throwable" "backtrace" "Ljava/lang/Object;") ∈ WS0 := ws0_t (i := 377) (by decide +kernel) (by decide +kernel)
theorem q379 : (Jvm.Cond.methodLink "TextPipeline" (91 : Nat) ({ cls := "java/lang/IllegalStateException", name := "<init>", desc := "(Ljava/lang/String;)V" } : Jvm.MethodName)) ∈ WS0 := ws0_t (i := 379) (by decide +kernel) (by decide +kernel)
theorem q380 : (Jvm.Cond.instanceMethod ({ cls := "java/lang/IllegalStateException", name := "<init>", desc := "(Ljava/lang/String;)V" } : Jvm.MethodName)) ∈ WS0 := ws0_t (i := 380) (by decide +kernel) (by decide +kernel)
theorem q381 : (Jvm.Cond.code ({ cls := "java/lang/IllegalStateException", name := "<init>", desc := "(Ljava/lang/String;)V" } : Jvm.MethodName) prog_13_method_2_code (2 : Nat) (Option.none : Option Jvm.ClassFile.FieldType)) ∈ WS0 := ws0_t (i := 381) (by decide +kernel) (by decide +kernel)
theorem q382 : (Jvm.Cond.methodLink "java/lang/IllegalStateException" (7 : Nat) ({ cls := "java/lang/RuntimeException", name := "<init>", desc := "(Ljava/lang/String;)V" } : Jvm.MethodName)) ∈ WS0 := ws0_t (i := 382) (by decide +kernel) (by decide +kernel)
theorem q383 : (Jvm.Cond.lays "java/lang/IllegalStateException" "java/lang/Throwable" "depth" "I") ∈ WS0 := ws0_t (i := 383) (by decide +kernel) (by decide +kernel)
theorem q385 : (Jvm.Cond.methodLink "TextPipeline" (92 : Nat) ({ cls := "TextPipeline$Table", name := "changeParting", desc := "(IIIZ)V" } : Jvm.MethodName)) ∈ WS0 := ws0_t (i := 385) (by decide +kernel) (by decide +kernel)
theorem q386 : (Jvm.Cond.instanceMethod ({ cls := "TextPipeline$Table", name := "changeParting", desc := "(IIIZ)V" } : Jvm.MethodName)) ∈ WS0 := ws0_t (i := 386) (by decide +kernel) (by decide +kernel)
theorem q387 : (Jvm.Cond.selects "TextPipeline$Table" ({ cls := "TextPipeline$Table", name := "changeParting", desc := "(IIIZ)V" } : Jvm.MethodName) ({ cls := "TextPipeline$Table", name := "changeParting", desc := "(IIIZ)V" } : Jvm.MethodName)) ∈ WS0 := ws0_t (i := 387) (by decide +kernel) (by decide +kernel)
theorem q388 : (Jvm.Cond.code ({ cls := "TextPipeline$Table", name := "changeParting", desc := "(IIIZ)V" } : Jvm.MethodName) prog_8_method_12_code (5 : Nat) (Option.none : Option Jvm.ClassFile.FieldType)) ∈ WS0 := ws0_t (i := 388) (by decide +kernel) (by decide +kernel)
theorem q389 : (Jvm.Cond.methodLink "TextPipelineLaw" (79 : Nat) ({ cls := "TextPipelineLaw", name := "type", desc := "(LTextPipeline;I[J)I" } : Jvm.MethodName)) ∈ WS0 := ws0_t (i := 389) (by decide +kernel) (by decide +kernel)
theorem q390 : (Jvm.Cond.static ({ cls := "TextPipelineLaw", name := "type", desc := "(LTextPipeline;I[J)I" } : Jvm.MethodName)) ∈ WS0 := ws0_t (i := 390) (by decide +kernel) (by decide +kernel)
theorem q392 : (Jvm.Cond.methodLink "TextPipelineLaw" (21 : Nat) ({ cls := "TextPipeline", name := "type", desc := "(I)I" } : Jvm.MethodName)) ∈ WS0 := ws0_t (i := 392) (by decide +kernel) (by decide +kernel)
theorem q393 : (Jvm.Cond.instanceMethod ({ cls := "TextPipeline", name := "type", desc := "(I)I" } : Jvm.MethodName)) ∈ WS0 := ws0_t (i := 393) (by decide +kernel) (by decide +kernel)
theorem q394 : (Jvm.Cond.selects "TextPipeline" ({ cls := "TextPipeline", name := "type", desc := "(I)I" } : Jvm.MethodName) ({ cls := "TextPipeline", name := "type", desc := "(I)I" } : Jvm.MethodName)) ∈ WS0 := ws0_t (i := 394) (by decide +kernel) (by decide +kernel)
theorem q395 : (Jvm.Cond.code ({ cls := "TextPipeline", name := "type", desc := "(I)I" } : Jvm.MethodName) prog_1_method_4_code (2 : Nat) (Option.some Jvm.ClassFile.FieldType.int)) ∈ WS0 := ws0_t (i := 395) (by decide +kernel) (by decide +kernel)
theorem q398 : (Jvm.Cond.methodLink "TextPipeline" (104 : Nat) ({ cls := "TextPipeline$Row", name := "add", desc := "(I)V" } : Jvm.MethodName)) ∈ WS0 := ws0_t (i := 398) (by decide +kernel) (by decide +kernel)
theorem q399 : (Jvm.Cond.methodLink "TextPipelineLaw" (87 : Nat) ({ cls := "TextPipelineLaw", name := "bring", desc := "(LTextPipeline;Z[J)I" } : Jvm.MethodName)) ∈ WS0 := ws0_t (i := 399) (by decide +kernel) (by decide +kernel)
theorem q400 : (Jvm.Cond.static ({ cls := "TextPipelineLaw", name := "bring", desc := "(LTextPipeline;Z[J)I" } : Jvm.MethodName)) ∈ WS0 := ws0_t (i := 400) (by decide +kernel) (by decide +kernel)
theorem q402 : (Jvm.Cond.methodLink "TextPipelineLaw" (25 : Nat) ({ cls := "TextPipeline", name := "bring", desc := "(Z)I" } : Jvm.MethodName)) ∈ WS0 := ws0_t (i := 402) (by decide +kernel) (by decide +kernel)
theorem q403 : (Jvm.Cond.instanceMethod ({ cls := "TextPipeline", name := "bring", desc := "(Z)I" } : Jvm.MethodName)) ∈ WS0 := ws0_t (i := 403) (by decide +kernel) (by decide +kernel)
theorem q404 : (Jvm.Cond.selects "TextPipeline" ({ cls := "TextPipeline", name := "bring", desc := "(Z)I" } : Jvm.MethodName) ({ cls := "TextPipeline", name := "bring", desc := "(Z)I" } : Jvm.MethodName)) ∈ WS0 := ws0_t (i := 404) (by decide +kernel) (by decide +kernel)
theorem q405 : (Jvm.Cond.code ({ cls := "TextPipeline", name := "bring", desc := "(Z)I" } : Jvm.MethodName) prog_1_method_6_code (2 : Nat) (Option.some Jvm.ClassFile.FieldType.int)) ∈ WS0 := ws0_t (i := 405) (by decide +kernel) (by decide +kernel)
theorem q406 : (Jvm.Cond.methodLink "TextPipeline" (114 : Nat) ({ cls := "TextPipeline$Forms", name := "joinAll", desc := "(LTextPipeline$Table;LTextPipeline$Row;)V" } : Jvm.MethodName)) ∈ WS0 := ws0_t (i := 406) (by decide +kernel) (by decide +kernel)
theorem q407 : (Jvm.Cond.static ({ cls := "TextPipeline$Forms", name := "joinAll", desc := "(LTextPipeline$Table;LTextPipeline$Row;)V" } : Jvm.MethodName)) ∈ WS0 := ws0_t (i := 407) (by decide +kernel) (by decide +kernel)
theorem q408 : (Jvm.Cond.code ({ cls := "TextPipeline$Forms", name := "joinAll", desc := "(LTextPipeline$Table;LTextPipeline$Row;)V" } : Jvm.MethodName) prog_3_method_3_code (7 : Nat) (Option.none : Option Jvm.ClassFile.FieldType)) ∈ WS0 := ws0_t (i := 408) (by decide +kernel) (by decide +kernel)
theorem q409 : (Jvm.Cond.methodLink "TextPipeline$Forms" (41 : Nat) ({ cls := "TextPipeline$Forms", name := "openStarter", desc := "(LTextPipeline$Table;LTextPipeline$Row;II)I" } : Jvm.MethodName)) ∈ WS0 := ws0_t (i := 409) (by decide +kernel) (by decide +kernel)
theorem q410 : (Jvm.Cond.static ({ cls := "TextPipeline$Forms", name := "openStarter", desc := "(LTextPipeline$Table;LTextPipeline$Row;II)I" } : Jvm.MethodName)) ∈ WS0 := ws0_t (i := 410) (by decide +kernel) (by decide +kernel)
theorem q411 : (Jvm.Cond.code ({ cls := "TextPipeline$Forms", name := "openStarter", desc := "(LTextPipeline$Table;LTextPipeline$Row;II)I" } : Jvm.MethodName) prog_3_method_5_code (6 : Nat) (Option.some Jvm.ClassFile.FieldType.int)) ∈ WS0 := ws0_t (i := 411) (by decide +kernel) (by decide +kernel)
theorem q412 : (Jvm.Cond.methodLink "TextPipeline$Forms" (45 : Nat) ({ cls := "TextPipeline$Table", name := "joinOf", desc := "(II)I" } : Jvm.MethodName)) ∈ WS0 := ws0_t (i := 412) (by decide +kernel) (by decide +kernel)
theorem q413 : (Jvm.Cond.instanceMethod ({ cls := "TextPipeline$Table", name := "joinOf", desc := "(II)I" } : Jvm.MethodName)) ∈ WS0 := ws0_t (i := 413) (by decide +kernel) (by decide +kernel)
theorem q414 : (Jvm.Cond.selects "TextPipeline$Table" ({ cls := "TextPipeline$Table", name := "joinOf", desc := "(II)I" } : Jvm.MethodName) ({ cls := "TextPipeline$Table", name := "joinOf", desc := "(II)I" } : Jvm.MethodName)) ∈ WS0 := ws0_t (i := 414) (by decide +kernel) (by decide +kernel)
theorem q415 : (Jvm.Cond.code ({ cls := "TextPipeline$Table", name := "joinOf", desc := "(II)I" } : Jvm.MethodName) prog_8_method_20_code (5 : Nat) (Option.some Jvm.ClassFile.FieldType.int)) ∈ WS0 := ws0_t (i := 415) (by decide +kernel) (by decide +kernel)
theorem q416 : (Jvm.Cond.methodLink "TextPipeline$Forms" (48 : Nat) ({ cls := "TextPipeline$Row", name := "put", desc := "(II)V" } : Jvm.MethodName)) ∈ WS0 := ws0_t (i := 416) (by decide +kernel) (by decide +kernel)
theorem q417 : (Jvm.Cond.instanceMethod ({ cls := "TextPipeline$Row", name := "put", desc := "(II)V" } : Jvm.MethodName)) ∈ WS0 := ws0_t (i := 417) (by decide +kernel) (by decide +kernel)
theorem q418 : (Jvm.Cond.selects "TextPipeline$Row" ({ cls := "TextPipeline$Row", name := "put", desc := "(II)V" } : Jvm.MethodName) ({ cls := "TextPipeline$Row", name := "put", desc := "(II)V" } : Jvm.MethodName)) ∈ WS0 := ws0_t (i := 418) (by decide +kernel) (by decide +kernel)
theorem q419 : (Jvm.Cond.code ({ cls := "TextPipeline$Row", name := "put", desc := "(II)V" } : Jvm.MethodName) prog_6_method_4_code (3 : Nat) (Option.none : Option Jvm.ClassFile.FieldType)) ∈ WS0 := ws0_t (i := 419) (by decide +kernel) (by decide +kernel)
theorem q421 : (Jvm.Cond.methodLink "TextPipeline" (120 : Nat) ({ cls := "TextPipeline$Row", name := "copyOf", desc := "(LTextPipeline$Row;)V" } : Jvm.MethodName)) ∈ WS0 := ws0_t (i := 421) (by decide +kernel) (by decide +kernel)
theorem q422 : (Jvm.Cond.instanceMethod ({ cls := "TextPipeline$Row", name := "copyOf", desc := "(LTextPipeline$Row;)V" } : Jvm.MethodName)) ∈ WS0 := ws0_t (i := 422) (by decide +kernel) (by decide +kernel)
theorem q423 : (Jvm.Cond.selects "TextPipeline$Row" ({ cls := "TextPipeline$Row", name := "copyOf", desc := "(LTextPipeline$Row;)V" } : Jvm.MethodName) ({ cls := "TextPipeline$Row", name := "copyOf", desc := "(LTextPipeline$Row;)V" } : Jvm.MethodName)) ∈ WS0 := ws0_t (i := 423) (by decide +kernel) (by decide +kernel)
theorem q424 : (Jvm.Cond.code ({ cls := "TextPipeline$Row", name := "copyOf", desc := "(LTextPipeline$Row;)V" } : Jvm.MethodName) prog_6_method_8_code (4 : Nat) (Option.none : Option Jvm.ClassFile.FieldType)) ∈ WS0 := ws0_t (i := 424) (by decide +kernel) (by decide +kernel)
theorem q425 : (Jvm.Cond.methodLink "TextPipelineLaw" (91 : Nat) ({ cls := "TextPipelineLaw", name := "at", desc := "(LTextPipeline;I[J)I" } : Jvm.MethodName)) ∈ WS0 := ws0_t (i := 425) (by decide +kernel) (by decide +kernel)
theorem q426 : (Jvm.Cond.static ({ cls := "TextPipelineLaw", name := "at", desc := "(LTextPipeline;I[J)I" } : Jvm.MethodName)) ∈ WS0 := ws0_t (i := 426) (by decide +kernel) (by decide +kernel)
theorem q428 : (Jvm.Cond.classLink "TextPipelineLaw" (32 : Nat) "java/lang/IndexOutOfBoundsException") ∈ WS0 := ws0_t (i := 428) (by decide +kernel) (by decide +kernel)
theorem q429 : (Jvm.Cond.methodLink "TextPipelineLaw" (29 : Nat) ({ cls := "TextPipeline", name := "at", desc := "(I)I" } : Jvm.MethodName)) ∈ WS0 := ws0_t (i := 429) (by decide +kernel) (by decide +kernel)
theorem q430 : (Jvm.Cond.instanceMethod ({ cls := "TextPipeline", name := "at", desc := "(I)I" } : Jvm.MethodName)) ∈ WS0 := ws0_t (i := 430) (by decide +kernel) (by decide +kernel)
theorem q431 : (Jvm.Cond.selects "TextPipeline" ({ cls := "TextPipeline", name := "at", desc := "(I)I" } : Jvm.MethodName) ({ cls := "TextPipeline", name := "at", desc := "(I)I" } : Jvm.MethodName)) ∈ WS0 := ws0_t (i := 431) (by decide +kernel) (by decide +kernel)
theorem q432 : (Jvm.Cond.code ({ cls := "TextPipeline", name := "at", desc := "(I)I" } : Jvm.MethodName) prog_1_method_7_code (2 : Nat) (Option.some Jvm.ClassFile.FieldType.int)) ∈ WS0 := ws0_t (i := 432) (by decide +kernel) (by decide +kernel)
theorem q433 : (Jvm.Cond.methodLink "TextPipeline" (124 : Nat) ({ cls := "TextPipeline", name := "requireCharacter", desc := "(I)V" } : Jvm.MethodName)) ∈ WS0 := ws0_t (i := 433) (by decide +kernel) (by decide +kernel)
theorem q435 : (Jvm.Cond.instanceMethod ({ cls := "TextPipeline", name := "requireCharacter", desc := "(I)V" } : Jvm.MethodName)) ∈ WS0 := ws0_t (i := 435) (by decide +kernel) (by decide +kernel)
theorem q436 : (Jvm.Cond.code ({ cls := "TextPipeline", name := "requireCharacter", desc := "(I)V" } : Jvm.MethodName) prog_1_method_19_code (2 : Nat) (Option.none : Option Jvm.ClassFile.FieldType)) ∈ WS0 := ws0_t (i := 436) (by decide +kernel) (by decide +kernel)
theorem q437 : (Jvm.Cond.classLink "TextPipeline" (160 : Nat) "java/lang/IndexOutOfBoundsException") ∈ WS0 := ws0_t (i := 437) (by decide +kernel) (by decide +kernel)
theorem q438 : (Jvm.Cond.instantiable "java/lang/IndexOutOfBoundsException" (6 : Nat)) ∈ WS0 := ws0_t (i := 438) (by decide +kernel) (by decide +kernel)
theorem q440 : (Jvm.Cond.selects "java/lang/IndexOutOfBoundsException" ({ cls := "java/lang/Throwable", name := "fillInStackTrace", desc := "(I)Ljava/lang/Throwable;" } : Jvm.MethodName) ({ cls := "java/lang/Throwable", name := "fillInStackTrace", desc := "(I)Ljava/lang/Throwable;" } : Jvm.MethodName)) ∈ WS0 := ws0_t (i := 440) (by decide +kernel) (by decide +kernel)
theorem q441 : (Jvm.Cond.lays "java/lang/IndexOutOfBoundsException" "java/lang/Throwable" "cause" "Ljava/lang/Throwable;") ∈ WS0 := ws0_t (i := 441) (by decide +kernel) (by decide +kernel)
theorem q442 : (Jvm.Cond.lays "java/lang/IndexOutOfBoundsException" "java/lang/Throwable" "stackTrace" "[Ljava/lang/StackTraceElement;") ∈ WS0 := ws0_t (i := 442) (by decide +kernel) (by decide +kernel)
theorem q443 : (Jvm.Cond.lays "java/lang/IndexOutOfBoundsException" "java/lang/Throwable" "suppressedExceptions" "Ljava/util/List;") ∈ WS0 := ws0_t (i := 443) (by decide +kernel) (by decide +kernel)
theorem q444 : (Jvm.Cond.lays "java/lang/IndexOutOfBoundsException" "java/lang/Throwable" "detailMessage" "Ljava/lang/String;") ∈ WS0 := ws0_t (i := 444) (by decide +kernel) (by decide +kernel)
theorem q445 : (Jvm.Cond.lays "java/lang/IndexOutOfBoundsException" "java/lang/Throwable" "backtrace" "Ljava/lang/Object;") ∈ WS0 := ws0_t (i := 445) (by decide +kernel) (by decide +kernel)
theorem q447 : (Jvm.Cond.methodLink "TextPipeline" (164 : Nat) ({ cls := "java/lang/IndexOutOfBoundsException", name := "<init>", desc := "(Ljava/lang/String;)V" } : Jvm.MethodName)) ∈ WS0 := ws0_t (i := 447) (by decide +kernel) (by decide +kernel)
theorem q448 : (Jvm.Cond.instanceMethod ({ cls := "java/lang/IndexOutOfBoundsException", name := "<init>", desc := "(Ljava/lang/String;)V" } : Jvm.MethodName)) ∈ WS0 := ws0_t (i := 448) (by decide +kernel) (by decide +kernel)
theorem q449 : (Jvm.Cond.code ({ cls := "java/lang/IndexOutOfBoundsException", name := "<init>", desc := "(Ljava/lang/String;)V" } : Jvm.MethodName) prog_14_method_2_code (2 : Nat) (Option.none : Option Jvm.ClassFile.FieldType)) ∈ WS0 := ws0_t (i := 449) (by decide +kernel) (by decide +kernel)
theorem q450 : (Jvm.Cond.methodLink "java/lang/IndexOutOfBoundsException" (7 : Nat) ({ cls := "java/lang/RuntimeException", name := "<init>", desc := "(Ljava/lang/String;)V" } : Jvm.MethodName)) ∈ WS0 := ws0_t (i := 450) (by decide +kernel) (by decide +kernel)
theorem q451 : (Jvm.Cond.lays "java/lang/IndexOutOfBoundsException" "java/lang/Throwable" "depth" "I") ∈ WS0 := ws0_t (i := 451) (by decide +kernel) (by decide +kernel)
theorem q453 : (Jvm.Cond.methodLink "TextPipeline" (127 : Nat) ({ cls := "TextPipeline$Row", name := "item", desc := "(I)I" } : Jvm.MethodName)) ∈ WS0 := ws0_t (i := 453) (by decide +kernel) (by decide +kernel)
theorem q454 : (Jvm.Cond.methodLink "TextPipelineLaw" (94 : Nat) ({ cls := "TextPipelineLaw", name := "cluster", desc := "(LTextPipeline;I[J)I" } : Jvm.MethodName)) ∈ WS0 := ws0_t (i := 454) (by decide +kernel) (by decide +kernel)
theorem q455 : (Jvm.Cond.static ({ cls := "TextPipelineLaw", name := "cluster", desc := "(LTextPipeline;I[J)I" } : Jvm.MethodName)) ∈ WS0 := ws0_t (i := 455) (by decide +kernel) (by decide +kernel)
theorem q457 : (Jvm.Cond.methodLink "TextPipelineLaw" (34 : Nat) ({ cls := "TextPipeline", name := "cluster", desc := "(I)Z" } : Jvm.MethodName)) ∈ WS0 := ws0_t (i := 457) (by decide +kernel) (by decide +kernel)
theorem q458 : (Jvm.Cond.instanceMethod ({ cls := "TextPipeline", name := "cluster", desc := "(I)Z" } : Jvm.MethodName)) ∈ WS0 := ws0_t (i := 458) (by decide +kernel) (by decide +kernel)
theorem q459 : (Jvm.Cond.selects "TextPipeline" ({ cls := "TextPipeline", name := "cluster", desc := "(I)Z" } : Jvm.MethodName) ({ cls := "TextPipeline", name := "cluster", desc := "(I)Z" } : Jvm.MethodName)) ∈ WS0 := ws0_t (i := 459) (by decide +kernel) (by decide +kernel)
theorem q460 : (Jvm.Cond.code ({ cls := "TextPipeline", name := "cluster", desc := "(I)Z" } : Jvm.MethodName) prog_1_method_8_code (2 : Nat) (Option.some Jvm.ClassFile.FieldType.boolean)) ∈ WS0 := ws0_t (i := 460) (by decide +kernel) (by decide +kernel)
theorem q461 : (Jvm.Cond.methodLink "TextPipeline" (131 : Nat) ({ cls := "TextPipeline", name := "requirePlace", desc := "(I)V" } : Jvm.MethodName)) ∈ WS0 := ws0_t (i := 461) (by decide +kernel) (by decide +kernel)
theorem q463 : (Jvm.Cond.instanceMethod ({ cls := "TextPipeline", name := "requirePlace", desc := "(I)V" } : Jvm.MethodName)) ∈ WS0 := ws0_t (i := 463) (by decide +kernel) (by decide +kernel)
theorem q464 : (Jvm.Cond.code ({ cls := "TextPipeline", name := "requirePlace", desc := "(I)V" } : Jvm.MethodName) prog_1_method_20_code (2 : Nat) (Option.none : Option Jvm.ClassFile.FieldType)) ∈ WS0 := ws0_t (i := 464) (by decide +kernel) (by decide +kernel)
theorem q466 : (Jvm.Cond.methodLink "TextPipelineLaw" (101 : Nat) ({ cls := "TextPipelineLaw", name := "line", desc := "(LTextPipeline;I[J)I" } : Jvm.MethodName)) ∈ WS0 := ws0_t (i := 466) (by decide +kernel) (by decide +kernel)
theorem q467 : (Jvm.Cond.static ({ cls := "TextPipelineLaw", name := "line", desc := "(LTextPipeline;I[J)I" } : Jvm.MethodName)) ∈ WS0 := ws0_t (i := 467) (by decide +kernel) (by decide +kernel)
theorem q469 : (Jvm.Cond.methodLink "TextPipelineLaw" (38 : Nat) ({ cls := "TextPipeline", name := "line", desc := "(I)I" } : Jvm.MethodName)) ∈ WS0 := ws0_t (i := 469) (by decide +kernel) (by decide +kernel)
theorem q470 : (Jvm.Cond.instanceMethod ({ cls := "TextPipeline", name := "line", desc := "(I)I" } : Jvm.MethodName)) ∈ WS0 := ws0_t (i := 470) (by decide +kernel) (by decide +kernel)
theorem q471 : (Jvm.Cond.selects "TextPipeline" ({ cls := "TextPipeline", name := "line", desc := "(I)I" } : Jvm.MethodName) ({ cls := "TextPipeline", name := "line", desc := "(I)I" } : Jvm.MethodName)) ∈ WS0 := ws0_t (i := 471) (by decide +kernel) (by decide +kernel)
theorem q472 : (Jvm.Cond.code ({ cls := "TextPipeline", name := "line", desc := "(I)I" } : Jvm.MethodName) prog_1_method_10_code (2 : Nat) (Option.some Jvm.ClassFile.FieldType.int)) ∈ WS0 := ws0_t (i := 472) (by decide +kernel) (by decide +kernel)
theorem q473 : (Jvm.Cond.methodLink "TextPipeline" (140 : Nat) ({ cls := "TextPipeline$Lines", name := "endBefore", desc := "(LTextPipeline$Table;LTextPipeline$Row;I)I" } : Jvm.MethodName)) ∈ WS0 := ws0_t (i := 473) (by decide +kernel) (by decide +kernel)
theorem q474 : (Jvm.Cond.instanceMethod ({ cls := "TextPipeline$Lines", name := "endBefore", desc := "(LTextPipeline$Table;LTextPipeline$Row;I)I" } : Jvm.MethodName)) ∈ WS0 := ws0_t (i := 474) (by decide +kernel) (by decide +kernel)
theorem q475 : (Jvm.Cond.selects "TextPipeline$Lines" ({ cls := "TextPipeline$Lines", name := "endBefore", desc := "(LTextPipeline$Table;LTextPipeline$Row;I)I" } : Jvm.MethodName) ({ cls := "TextPipeline$Lines", name := "endBefore", desc := "(LTextPipeline$Table;LTextPipeline$Row;I)I" } : Jvm.MethodName)) ∈ WS0 := ws0_t (i := 475) (by decide +kernel) (by decide +kernel)
theorem q476 : (Jvm.Cond.code ({ cls := "TextPipeline$Lines", name := "endBefore", desc := "(LTextPipeline$Table;LTextPipeline$Row;I)I" } : Jvm.MethodName) prog_5_method_2_code (5 : Nat) (Option.some Jvm.ClassFile.FieldType.int)) ∈ WS0 := ws0_t (i := 476) (by decide +kernel) (by decide +kernel)
theorem q477 : (Jvm.Cond.methodLink "TextPipeline$Lines" (15 : Nat) ({ cls := "TextPipeline$Row", name := "size", desc := "()I" } : Jvm.MethodName)) ∈ WS0 := ws0_t (i := 477) (by decide +kernel) (by decide +kernel)
theorem q478 : (Jvm.Cond.methodLink "TextPipeline$Lines" (21 : Nat) ({ cls := "TextPipeline$Lines", name := "findKinds", desc := "(LTextPipeline$Table;LTextPipeline$Row;)V" } : Jvm.MethodName)) ∈ WS0 := ws0_t (i := 478) (by decide +kernel) (by decide +kernel)
theorem q480 : (Jvm.Cond.instanceMethod ({ cls := "TextPipeline$Lines", name := "findKinds", desc := "(LTextPipeline$Table;LTextPipeline$Row;)V" } : Jvm.MethodName)) ∈ WS0 := ws0_t (i := 480) (by decide +kernel) (by decide +kernel)
theorem q481 : (Jvm.Cond.code ({ cls := "TextPipeline$Lines", name := "findKinds", desc := "(LTextPipeline$Table;LTextPipeline$Row;)V" } : Jvm.MethodName) prog_5_method_3_code (6 : Nat) (Option.none : Option Jvm.ClassFile.FieldType)) ∈ WS0 := ws0_t (i := 481) (by decide +kernel) (by decide +kernel)
theorem q482 : (Jvm.Cond.methodLink "TextPipeline$Lines" (25 : Nat) ({ cls := "TextPipeline$Row", name := "item", desc := "(I)I" } : Jvm.MethodName)) ∈ WS0 := ws0_t (i := 482) (by decide +kernel) (by decide +kernel)
theorem q483 : (Jvm.Cond.methodLink "TextPipeline$Lines" (29 : Nat) ({ cls := "TextPipeline$Table", name := "lineClass", desc := "(I)I" } : Jvm.MethodName)) ∈ WS0 := ws0_t (i := 483) (by decide +kernel) (by decide +kernel)
theorem q484 : (Jvm.Cond.instanceMethod ({ cls := "TextPipeline$Table", name := "lineClass", desc := "(I)I" } : Jvm.MethodName)) ∈ WS0 := ws0_t (i := 484) (by decide +kernel) (by decide +kernel)
theorem q485 : (Jvm.Cond.selects "TextPipeline$Table" ({ cls := "TextPipeline$Table", name := "lineClass", desc := "(I)I" } : Jvm.MethodName) ({ cls := "TextPipeline$Table", name := "lineClass", desc := "(I)I" } : Jvm.MethodName)) ∈ WS0 := ws0_t (i := 485) (by decide +kernel) (by decide +kernel)
theorem q486 : (Jvm.Cond.code ({ cls := "TextPipeline$Table", name := "lineClass", desc := "(I)I" } : Jvm.MethodName) prog_8_method_15_code (2 : Nat) (Option.some Jvm.ClassFile.FieldType.int)) ∈ WS0 := ws0_t (i := 486) (by decide +kernel) (by decide +kernel)
theorem q487 : (Jvm.Cond.methodLink "TextPipeline$Lines" (41 : Nat) ({ cls := "TextPipeline$Lines", name := "isGap", desc := "(I)Z" } : Jvm.MethodName)) ∈ WS0 := ws0_t (i := 487) (by decide +kernel) (by decide +kernel)
theorem q488 : (Jvm.Cond.static ({ cls := "TextPipeline$Lines", name := "isGap", desc := "(I)Z" } : Jvm.MethodName)) ∈ WS0 := ws0_t (i := 488) (by decide +kernel) (by decide +kernel)
theorem q489 : (Jvm.Cond.code ({ cls := "TextPipeline$Lines", name := "isGap", desc := "(I)Z" } : Jvm.MethodName) prog_5_method_6_code (1 : Nat) (Option.some Jvm.ClassFile.FieldType.boolean)) ∈ WS0 := ws0_t (i := 489) (by decide +kernel) (by decide +kernel)
theorem q490 : (Jvm.Cond.methodLink "TextPipeline$Lines" (34 : Nat) ({ cls := "TextPipeline$Lines", name := "kindOverSpaces", desc := "(I)I" } : Jvm.MethodName)) ∈ WS0 := ws0_t (i := 490) (by decide +kernel) (by decide +kernel)
theorem q492 : (Jvm.Cond.instanceMethod ({ cls := "TextPipeline$Lines", name := "kindOverSpaces", desc := "(I)I" } : Jvm.MethodName)) ∈ WS0 := ws0_t (i := 492) (by decide +kernel) (by decide +kernel)
theorem q493 : (Jvm.Cond.code ({ cls := "TextPipeline$Lines", name := "kindOverSpaces", desc := "(I)I" } : Jvm.MethodName) prog_5_method_4_code (3 : Nat) (Option.some Jvm.ClassFile.FieldType.int)) ∈ WS0 := ws0_t (i := 493) (by decide +kernel) (by decide +kernel)
theorem q494 : (Jvm.Cond.methodLink "TextPipeline$Lines" (37 : Nat) ({ cls := "TextPipeline$Lines", name := "endBetween", desc := "(IIIZ)I" } : Jvm.MethodName)) ∈ WS0 := ws0_t (i := 494) (by decide +kernel) (by decide +kernel)
theorem q495 : (Jvm.Cond.static ({ cls := "TextPipeline$Lines", name := "endBetween", desc := "(IIIZ)I" } : Jvm.MethodName)) ∈ WS0 := ws0_t (i := 495) (by decide +kernel) (by decide +kernel)
theorem q496 : (Jvm.Cond.code ({ cls := "TextPipeline$Lines", name := "endBetween", desc := "(IIIZ)I" } : Jvm.MethodName) prog_5_method_5_code (4 : Nat) (Option.some Jvm.ClassFile.FieldType.int)) ∈ WS0 := ws0_t (i := 496) (by decide +kernel) (by decide +kernel)
theorem q497 : (Jvm.Cond.methodLink "TextPipeline$Lines" (45 : Nat) ({ cls := "TextPipeline$Lines", name := "holdsOverSpaces", desc := "(III)Z" } : Jvm.MethodName)) ∈ WS0 := ws0_t (i := 497) (by decide +kernel) (by decide +kernel)
theorem q498 : (Jvm.Cond.static ({ cls := "TextPipeline$Lines", name := "holdsOverSpaces", desc := "(III)Z" } : Jvm.MethodName)) ∈ WS0 := ws0_t (i := 498) (by decide +kernel) (by decide +kernel)
theorem q499 : (Jvm.Cond.code ({ cls := "TextPipeline$Lines", name := "holdsOverSpaces", desc := "(III)Z" } : Jvm.MethodName) prog_5_method_8_code (3 : Nat) (Option.some Jvm.ClassFile.FieldType.boolean)) ∈ WS0 := ws0_t (i := 499) (by decide +kernel) (by decide +kernel)
theorem q500 : (Jvm.Cond.methodLink "TextPipeline$Lines" (49 : Nat) ({ cls := "TextPipeline$Lines", name := "holdsSideBySide", desc := "(II)Z" } : Jvm.MethodName)) ∈ WS0 := ws0_t (i := 500) (by decide +kernel) (by decide +kernel)
theorem q501 : (Jvm.Cond.static ({ cls := "TextPipeline$Lines", name := "holdsSideBySide", desc := "(II)Z" } : Jvm.MethodName)) ∈ WS0 := ws0_t (i := 501) (by decide +kernel) (by decide +kernel)
theorem q502 : (Jvm.Cond.code ({ cls := "TextPipeline$Lines", name := "holdsSideBySide", desc := "(II)Z" } : Jvm.MethodName) prog_5_method_9_code (2 : Nat) (Option.some Jvm.ClassFile.FieldType.boolean)) ∈ WS0 := ws0_t (i := 502) (by decide +kernel) (by decide +kernel)
theorem q503 : (Jvm.Cond.methodLink "TextPipeline$Lines" (53 : Nat) ({ cls := "TextPipeline$Lines", name := "isWord", desc := "(I)Z" } : Jvm.MethodName)) ∈ WS0 := ws0_t (i := 503) (by decide +kernel) (by decide +kernel)
theorem q504 : (Jvm.Cond.static ({ cls := "TextPipeline$Lines", name := "isWord", desc := "(I)Z" } : Jvm.MethodName)) ∈ WS0 := ws0_t (i := 504) (by decide +kernel) (by decide +kernel)
theorem q505 : (Jvm.Cond.code ({ cls := "TextPipeline$Lines", name := "isWord", desc := "(I)Z" } : Jvm.MethodName) prog_5_method_7_code (1 : Nat) (Option.some Jvm.ClassFile.FieldType.boolean)) ∈ WS0 := ws0_t (i := 505) (by decide +kernel) (by decide +kernel)
theorem q506 : (Jvm.Cond.methodLink "TextPipelineLaw" (104 : Nat) ({ cls := "TextPipelineLaw", name := "level", desc := "(LTextPipeline;II[J)I" } : Jvm.MethodName)) ∈ WS0 := ws0_t (i := 506) (by decide +kernel) (by decide +kernel)
theorem q507 : (Jvm.Cond.static ({ cls := "TextPipelineLaw", name := "level", desc := "(LTextPipeline;II[J)I" } : Jvm.MethodName)) ∈ WS0 := ws0_t (i := 507) (by decide +kernel) (by decide +kernel)
theorem q509 : (Jvm.Cond.methodLink "TextPipelineLaw" (41 : Nat) ({ cls := "TextPipeline", name := "level", desc := "(II)I" } : Jvm.MethodName)) ∈ WS0 := ws0_t (i := 509) (by decide +kernel) (by decide +kernel)
theorem q510 : (Jvm.Cond.instanceMethod ({ cls := "TextPipeline", name := "level", desc := "(II)I" } : Jvm.MethodName)) ∈ WS0 := ws0_t (i := 510) (by decide +kernel) (by decide +kernel)
theorem q511 : (Jvm.Cond.selects "TextPipeline" ({ cls := "TextPipeline", name := "level", desc := "(II)I" } : Jvm.MethodName) ({ cls := "TextPipeline", name := "level", desc := "(II)I" } : Jvm.MethodName)) ∈ WS0 := ws0_t (i := 511) (by decide +kernel) (by decide +kernel)
theorem q512 : (Jvm.Cond.code ({ cls := "TextPipeline", name := "level", desc := "(II)I" } : Jvm.MethodName) prog_1_method_11_code (3 : Nat) (Option.some Jvm.ClassFile.FieldType.int)) ∈ WS0 := ws0_t (i := 512) (by decide +kernel) (by decide +kernel)
theorem q513 : (Jvm.Cond.methodLink "TextPipeline" (144 : Nat) ({ cls := "TextPipeline$Sides", name := "findLevels", desc := "(LTextPipeline$Table;LTextPipeline$Row;I)V" } : Jvm.MethodName)) ∈ WS0 := ws0_t (i := 513) (by decide +kernel) (by decide +kernel)
theorem q514 : (Jvm.Cond.instanceMethod ({ cls := "TextPipeline$Sides", name := "findLevels", desc := "(LTextPipeline$Table;LTextPipeline$Row;I)V" } : Jvm.MethodName)) ∈ WS0 := ws0_t (i := 514) (by decide +kernel) (by decide +kernel)
theorem q515 : (Jvm.Cond.selects "TextPipeline$Sides" ({ cls := "TextPipeline$Sides", name := "findLevels", desc := "(LTextPipeline$Table;LTextPipeline$Row;I)V" } : Jvm.MethodName) ({ cls := "TextPipeline$Sides", name := "findLevels", desc := "(LTextPipeline$Table;LTextPipeline$Row;I)V" } : Jvm.MethodName)) ∈ WS0 := ws0_t (i := 515) (by decide +kernel) (by decide +kernel)
theorem q516 : (Jvm.Cond.code ({ cls := "TextPipeline$Sides", name := "findLevels", desc := "(LTextPipeline$Table;LTextPipeline$Row;I)V" } : Jvm.MethodName) prog_7_method_4_code (7 : Nat) (Option.none : Option Jvm.ClassFile.FieldType)) ∈ WS0 := ws0_t (i := 516) (by decide +kernel) (by decide +kernel)
theorem q517 : (Jvm.Cond.methodLink "TextPipeline$Sides" (21 : Nat) ({ cls := "TextPipeline$Row", name := "size", desc := "()I" } : Jvm.MethodName)) ∈ WS0 := ws0_t (i := 517) (by decide +kernel) (by decide +kernel)
theorem q518 : (Jvm.Cond.methodLink "TextPipeline$Sides" (27 : Nat) ({ cls := "TextPipeline$Sides", name := "baseOf", desc := "(LTextPipeline$Table;LTextPipeline$Row;)I" } : Jvm.MethodName)) ∈ WS0 := ws0_t (i := 518) (by decide +kernel) (by decide +kernel)
theorem q519 : (Jvm.Cond.static ({ cls := "TextPipeline$Sides", name := "baseOf", desc := "(LTextPipeline$Table;LTextPipeline$Row;)I" } : Jvm.MethodName)) ∈ WS0 := ws0_t (i := 519) (by decide +kernel) (by decide +kernel)
theorem q520 : (Jvm.Cond.code ({ cls := "TextPipeline$Sides", name := "baseOf", desc := "(LTextPipeline$Table;LTextPipeline$Row;)I" } : Jvm.MethodName) prog_7_method_6_code (4 : Nat) (Option.some Jvm.ClassFile.FieldType.int)) ∈ WS0 := ws0_t (i := 520) (by decide +kernel) (by decide +kernel)
theorem q521 : (Jvm.Cond.methodLink "TextPipeline$Sides" (65 : Nat) ({ cls := "TextPipeline$Row", name := "item", desc := "(I)I" } : Jvm.MethodName)) ∈ WS0 := ws0_t (i := 521) (by decide +kernel) (by decide +kernel)
theorem q522 : (Jvm.Cond.methodLink "TextPipeline$Sides" (69 : Nat) ({ cls := "TextPipeline$Table", name := "sideClass", desc := "(I)I" } : Jvm.MethodName)) ∈ WS0 := ws0_t (i := 522) (by decide +kernel) (by decide +kernel)
theorem q523 : (Jvm.Cond.instanceMethod ({ cls := "TextPipeline$Table", name := "sideClass", desc := "(I)I" } : Jvm.MethodName)) ∈ WS0 := ws0_t (i := 523) (by decide +kernel) (by decide +kernel)
theorem q524 : (Jvm.Cond.selects "TextPipeline$Table" ({ cls := "TextPipeline$Table", name := "sideClass", desc := "(I)I" } : Jvm.MethodName) ({ cls := "TextPipeline$Table", name := "sideClass", desc := "(I)I" } : Jvm.MethodName)) ∈ WS0 := ws0_t (i := 524) (by decide +kernel) (by decide +kernel)
theorem q525 : (Jvm.Cond.code ({ cls := "TextPipeline$Table", name := "sideClass", desc := "(I)I" } : Jvm.MethodName) prog_8_method_16_code (2 : Nat) (Option.some Jvm.ClassFile.FieldType.int)) ∈ WS0 := ws0_t (i := 525) (by decide +kernel) (by decide +kernel)
theorem q526 : (Jvm.Cond.methodLink "TextPipeline$Sides" (74 : Nat) ({ cls := "TextPipeline$Sides", name := "isLetter", desc := "(I)Z" } : Jvm.MethodName)) ∈ WS0 := ws0_t (i := 526) (by decide +kernel) (by decide +kernel)
theorem q527 : (Jvm.Cond.static ({ cls := "TextPipeline$Sides", name := "isLetter", desc := "(I)Z" } : Jvm.MethodName)) ∈ WS0 := ws0_t (i := 527) (by decide +kernel) (by decide +kernel)
theorem q528 : (Jvm.Cond.code ({ cls := "TextPipeline$Sides", name := "isLetter", desc := "(I)Z" } : Jvm.MethodName) prog_7_method_7_code (1 : Nat) (Option.some Jvm.ClassFile.FieldType.boolean)) ∈ WS0 := ws0_t (i := 528) (by decide +kernel) (by decide +kernel)
theorem q529 : (Jvm.Cond.methodLink "TextPipeline$Sides" (31 : Nat) ({ cls := "TextPipeline$Sides", name := "takeKinds", desc := "(LTextPipeline$Table;LTextPipeline$Row;I)V" } : Jvm.MethodName)) ∈ WS0 := ws0_t (i := 529) (by decide +kernel) (by decide +kernel)
theorem q531 : (Jvm.Cond.instanceMethod ({ cls := "TextPipeline$Sides", name := "takeKinds", desc := "(LTextPipeline$Table;LTextPipeline$Row;I)V" } : Jvm.MethodName)) ∈ WS0 := ws0_t (i := 531) (by decide +kernel) (by decide +kernel)
theorem q532 : (Jvm.Cond.code ({ cls := "TextPipeline$Sides", name := "takeKinds", desc := "(LTextPipeline$Table;LTextPipeline$Row;I)V" } : Jvm.MethodName) prog_7_method_10_code (5 : Nat) (Option.none : Option Jvm.ClassFile.FieldType)) ∈ WS0 := ws0_t (i := 532) (by decide +kernel) (by decide +kernel)
theorem q533 : (Jvm.Cond.methodLink "TextPipeline$Sides" (35 : Nat) ({ cls := "TextPipeline$Sides", name := "takeFromFront", desc := "(I)V" } : Jvm.MethodName)) ∈ WS0 := ws0_t (i := 533) (by decide +kernel) (by decide +kernel)
theorem q535 : (Jvm.Cond.instanceMethod ({ cls := "TextPipeline$Sides", name := "takeFromFront", desc := "(I)V" } : Jvm.MethodName)) ∈ WS0 := ws0_t (i := 535) (by decide +kernel) (by decide +kernel)
theorem q536 : (Jvm.Cond.code ({ cls := "TextPipeline$Sides", name := "takeFromFront", desc := "(I)V" } : Jvm.MethodName) prog_7_method_11_code (3 : Nat) (Option.none : Option Jvm.ClassFile.FieldType)) ∈ WS0 := ws0_t (i := 536) (by decide +kernel) (by decide +kernel)
theorem q537 : (Jvm.Cond.methodLink "TextPipeline$Sides" (39 : Nat) ({ cls := "TextPipeline$Sides", name := "changeArabs", desc := "(I)V" } : Jvm.MethodName)) ∈ WS0 := ws0_t (i := 537) (by decide +kernel) (by decide +kernel)
theorem q539 : (Jvm.Cond.instanceMethod ({ cls := "TextPipeline$Sides", name := "changeArabs", desc := "(I)V" } : Jvm.MethodName)) ∈ WS0 := ws0_t (i := 539) (by decide +kernel) (by decide +kernel)
theorem q540 : (Jvm.Cond.code ({ cls := "TextPipeline$Sides", name := "changeArabs", desc := "(I)V" } : Jvm.MethodName) prog_7_method_12_code (4 : Nat) (Option.none : Option Jvm.ClassFile.FieldType)) ∈ WS0 := ws0_t (i := 540) (by decide +kernel) (by decide +kernel)
theorem q541 : (Jvm.Cond.methodLink "TextPipeline$Sides" (42 : Nat) ({ cls := "TextPipeline$Sides", name := "joinNumbers", desc := "(I)V" } : Jvm.MethodName)) ∈ WS0 := ws0_t (i := 541) (by decide +kernel) (by decide +kernel)
theorem q543 : (Jvm.Cond.instanceMethod ({ cls := "TextPipeline$Sides", name := "joinNumbers", desc := "(I)V" } : Jvm.MethodName)) ∈ WS0 := ws0_t (i := 543) (by decide +kernel) (by decide +kernel)
theorem q544 : (Jvm.Cond.code ({ cls := "TextPipeline$Sides", name := "joinNumbers", desc := "(I)V" } : Jvm.MethodName) prog_7_method_13_code (5 : Nat) (Option.none : Option Jvm.ClassFile.FieldType)) ∈ WS0 := ws0_t (i := 544) (by decide +kernel) (by decide +kernel)
theorem q545 : (Jvm.Cond.methodLink "TextPipeline$Sides" (45 : Nat) ({ cls := "TextPipeline$Sides", name := "changeUnits", desc := "(I)V" } : Jvm.MethodName)) ∈ WS0 := ws0_t (i := 545) (by decide +kernel) (by decide +kernel)
theorem q547 : (Jvm.Cond.instanceMethod ({ cls := "TextPipeline$Sides", name := "changeUnits", desc := "(I)V" } : Jvm.MethodName)) ∈ WS0 := ws0_t (i := 547) (by decide +kernel) (by decide +kernel)
theorem q548 : (Jvm.Cond.code ({ cls := "TextPipeline$Sides", name := "changeUnits", desc := "(I)V" } : Jvm.MethodName) prog_7_method_14_code (5 : Nat) (Option.none : Option Jvm.ClassFile.FieldType)) ∈ WS0 := ws0_t (i := 548) (by decide +kernel) (by decide +kernel)
theorem q549 : (Jvm.Cond.methodLink "TextPipeline$Sides" (78 : Nat) ({ cls := "TextPipeline$Sides", name := "fillKinds", desc := "(III)V" } : Jvm.MethodName)) ∈ WS0 := ws0_t (i := 549) (by decide +kernel) (by decide +kernel)
theorem q551 : (Jvm.Cond.instanceMethod ({ cls := "TextPipeline$Sides", name := "fillKinds", desc := "(III)V" } : Jvm.MethodName)) ∈ WS0 := ws0_t (i := 551) (by decide +kernel) (by decide +kernel)
theorem q552 : (Jvm.Cond.code ({ cls := "TextPipeline$Sides", name := "fillKinds", desc := "(III)V" } : Jvm.MethodName) prog_7_method_18_code (5 : Nat) (Option.none : Option Jvm.ClassFile.FieldType)) ∈ WS0 := ws0_t (i := 552) (by decide +kernel) (by decide +kernel)
theorem q553 : (Jvm.Cond.methodLink "TextPipeline$Sides" (48 : Nat) ({ cls := "TextPipeline$Sides", name := "changeLeftNumbers", desc := "(I)V" } : Jvm.MethodName)) ∈ WS0 := ws0_t (i := 553) (by decide +kernel) (by decide +kernel)
theorem q555 : (Jvm.Cond.instanceMethod ({ cls := "TextPipeline$Sides", name := "changeLeftNumbers", desc := "(I)V" } : Jvm.MethodName)) ∈ WS0 := ws0_t (i := 555) (by decide +kernel) (by decide +kernel)
theorem q556 : (Jvm.Cond.code ({ cls := "TextPipeline$Sides", name := "changeLeftNumbers", desc := "(I)V" } : Jvm.MethodName) prog_7_method_15_code (4 : Nat) (Option.none : Option Jvm.ClassFile.FieldType)) ∈ WS0 := ws0_t (i := 556) (by decide +kernel) (by decide +kernel)
theorem q557 : (Jvm.Cond.methodLink "TextPipeline$Sides" (51 : Nat) ({ cls := "TextPipeline$Sides", name := "changeNeutrals", desc := "(I)V" } : Jvm.MethodName)) ∈ WS0 := ws0_t (i := 557) (by decide +kernel) (by decide +kernel)
theorem q559 : (Jvm.Cond.instanceMethod ({ cls := "TextPipeline$Sides", name := "changeNeutrals", desc := "(I)V" } : Jvm.MethodName)) ∈ WS0 := ws0_t (i := 559) (by decide +kernel) (by decide +kernel)
theorem q560 : (Jvm.Cond.code ({ cls := "TextPipeline$Sides", name := "changeNeutrals", desc := "(I)V" } : Jvm.MethodName) prog_7_method_16_code (4 : Nat) (Option.none : Option Jvm.ClassFile.FieldType)) ∈ WS0 := ws0_t (i := 560) (by decide +kernel) (by decide +kernel)
theorem q561 : (Jvm.Cond.methodLink "TextPipeline$Sides" (82 : Nat) ({ cls := "TextPipeline$Sides", name := "isNeutral", desc := "(I)Z" } : Jvm.MethodName)) ∈ WS0 := ws0_t (i := 561) (by decide +kernel) (by decide +kernel)
theorem q562 : (Jvm.Cond.static ({ cls := "TextPipeline$Sides", name := "isNeutral", desc := "(I)Z" } : Jvm.MethodName)) ∈ WS0 := ws0_t (i := 562) (by decide +kernel) (by decide +kernel)
theorem q563 : (Jvm.Cond.code ({ cls := "TextPipeline$Sides", name := "isNeutral", desc := "(I)Z" } : Jvm.MethodName) prog_7_method_8_code (1 : Nat) (Option.some Jvm.ClassFile.FieldType.boolean)) ∈ WS0 := ws0_t (i := 563) (by decide +kernel) (by decide +kernel)
theorem q564 : (Jvm.Cond.methodLink "TextPipeline$Sides" (85 : Nat) ({ cls := "TextPipeline$Sides", name := "kindBetween", desc := "(II)I" } : Jvm.MethodName)) ∈ WS0 := ws0_t (i := 564) (by decide +kernel) (by decide +kernel)
theorem q566 : (Jvm.Cond.instanceMethod ({ cls := "TextPipeline$Sides", name := "kindBetween", desc := "(II)I" } : Jvm.MethodName)) ∈ WS0 := ws0_t (i := 566) (by decide +kernel) (by decide +kernel)
theorem q567 : (Jvm.Cond.code ({ cls := "TextPipeline$Sides", name := "kindBetween", desc := "(II)I" } : Jvm.MethodName) prog_7_method_17_code (3 : Nat) (Option.some Jvm.ClassFile.FieldType.int)) ∈ WS0 := ws0_t (i := 567) (by decide +kernel) (by decide +kernel)
theorem q568 : (Jvm.Cond.methodLink "TextPipeline$Sides" (88 : Nat) ({ cls := "TextPipeline$Sides", name := "readsRight", desc := "(I)Z" } : Jvm.MethodName)) ∈ WS0 := ws0_t (i := 568) (by decide +kernel) (by decide +kernel)
theorem q569 : (Jvm.Cond.static ({ cls := "TextPipeline$Sides", name := "readsRight", desc := "(I)Z" } : Jvm.MethodName)) ∈ WS0 := ws0_t (i := 569) (by decide +kernel) (by decide +kernel)
theorem q570 : (Jvm.Cond.code ({ cls := "TextPipeline$Sides", name := "readsRight", desc := "(I)Z" } : Jvm.MethodName) prog_7_method_9_code (1 : Nat) (Option.some Jvm.ClassFile.FieldType.boolean)) ∈ WS0 := ws0_t (i := 570) (by decide +kernel) (by decide +kernel)
theorem q571 : (Jvm.Cond.methodLink "TextPipeline$Sides" (54 : Nat) ({ cls := "TextPipeline$Sides", name := "levelFor", desc := "(II)I" } : Jvm.MethodName)) ∈ WS0 := ws0_t (i := 571) (by decide +kernel) (by decide +kernel)
theorem q572 : (Jvm.Cond.static ({ cls := "TextPipeline$Sides", name := "levelFor", desc := "(II)I" } : Jvm.MethodName)) ∈ WS0 := ws0_t (i := 572) (by decide +kernel) (by decide +kernel)
theorem q573 : (Jvm.Cond.code ({ cls := "TextPipeline$Sides", name := "levelFor", desc := "(II)I" } : Jvm.MethodName) prog_7_method_19_code (2 : Nat) (Option.some Jvm.ClassFile.FieldType.int)) ∈ WS0 := ws0_t (i := 573) (by decide +kernel) (by decide +kernel)
theorem q574 : (Jvm.Cond.methodLink "TextPipeline$Sides" (58 : Nat) ({ cls := "TextPipeline$Sides", name := "resetGaps", desc := "(LTextPipeline$Table;LTextPipeline$Row;I)V" } : Jvm.MethodName)) ∈ WS0 := ws0_t (i := 574) (by decide +kernel) (by decide +kernel)
theorem q576 : (Jvm.Cond.instanceMethod ({ cls := "TextPipeline$Sides", name := "resetGaps", desc := "(LTextPipeline$Table;LTextPipeline$Row;I)V" } : Jvm.MethodName)) ∈ WS0 := ws0_t (i := 576) (by decide +kernel) (by decide +kernel)
theorem q577 : (Jvm.Cond.code ({ cls := "TextPipeline$Sides", name := "resetGaps", desc := "(LTextPipeline$Table;LTextPipeline$Row;I)V" } : Jvm.MethodName) prog_7_method_20_code (7 : Nat) (Option.none : Option Jvm.ClassFile.FieldType)) ∈ WS0 := ws0_t (i := 577) (by decide +kernel) (by decide +kernel)
theorem q578 : (Jvm.Cond.methodLink "TextPipeline" (148 : Nat) ({ cls := "TextPipeline$Sides", name := "levelOf", desc := "(I)I" } : Jvm.MethodName)) ∈ WS0 := ws0_t (i := 578) (by decide +kernel) (by decide +kernel)
theorem q579 : (Jvm.Cond.instanceMethod ({ cls := "TextPipeline$Sides", name := "levelOf", desc := "(I)I" } : Jvm.MethodName)) ∈ WS0 := ws0_t (i := 579) (by decide +kernel) (by decide +kernel)
theorem q580 : (Jvm.Cond.selects "TextPipeline$Sides" ({ cls := "TextPipeline$Sides", name := "levelOf", desc := "(I)I" } : Jvm.MethodName) ({ cls := "TextPipeline$Sides", name := "levelOf", desc := "(I)I" } : Jvm.MethodName)) ∈ WS0 := ws0_t (i := 580) (by decide +kernel) (by decide +kernel)
theorem q581 : (Jvm.Cond.code ({ cls := "TextPipeline$Sides", name := "levelOf", desc := "(I)I" } : Jvm.MethodName) prog_7_method_2_code (2 : Nat) (Option.some Jvm.ClassFile.FieldType.int)) ∈ WS0 := ws0_t (i := 581) (by decide +kernel) (by decide +kernel)
theorem q582 : (Jvm.Cond.methodLink "TextPipelineLaw" (108 : Nat) ({ cls := "TextPipelineLaw", name := "order", desc := "(LTextPipeline;II[J)I" } : Jvm.MethodName)) ∈ WS0 := ws0_t (i := 582) (by decide +kernel) (by decide +kernel)
theorem q583 : (Jvm.Cond.static ({ cls := "TextPipelineLaw", name := "order", desc := "(LTextPipeline;II[J)I" } : Jvm.MethodName)) ∈ WS0 := ws0_t (i := 583) (by decide +kernel) (by decide +kernel)
theorem q585 : (Jvm.Cond.methodLink "TextPipelineLaw" (45 : Nat) ({ cls := "TextPipeline", name := "order", desc := "(II)I" } : Jvm.MethodName)) ∈ WS0 := ws0_t (i := 585) (by decide +kernel) (by decide +kernel)
theorem q586 : (Jvm.Cond.instanceMethod ({ cls := "TextPipeline", name := "order", desc := "(II)I" } : Jvm.MethodName)) ∈ WS0 := ws0_t (i := 586) (by decide +kernel) (by decide +kernel)
theorem q587 : (Jvm.Cond.selects "TextPipeline" ({ cls := "TextPipeline", name := "order", desc := "(II)I" } : Jvm.MethodName) ({ cls := "TextPipeline", name := "order", desc := "(II)I" } : Jvm.MethodName)) ∈ WS0 := ws0_t (i := 587) (by decide +kernel) (by decide +kernel)
theorem q588 : (Jvm.Cond.code ({ cls := "TextPipeline", name := "order", desc := "(II)I" } : Jvm.MethodName) prog_1_method_12_code (3 : Nat) (Option.some Jvm.ClassFile.FieldType.int)) ∈ WS0 := ws0_t (i := 588) (by decide +kernel) (by decide +kernel)
theorem q589 : (Jvm.Cond.methodLink "TextPipeline" (151 : Nat) ({ cls := "TextPipeline$Sides", name := "findOrder", desc := "(I)V" } : Jvm.MethodName)) ∈ WS0 := ws0_t (i := 589) (by decide +kernel) (by decide +kernel)
theorem q590 : (Jvm.Cond.instanceMethod ({ cls := "TextPipeline$Sides", name := "findOrder", desc := "(I)V" } : Jvm.MethodName)) ∈ WS0 := ws0_t (i := 590) (by decide +kernel) (by decide +kernel)
theorem q591 : (Jvm.Cond.selects "TextPipeline$Sides" ({ cls := "TextPipeline$Sides", name := "findOrder", desc := "(I)V" } : Jvm.MethodName) ({ cls := "TextPipeline$Sides", name := "findOrder", desc := "(I)V" } : Jvm.MethodName)) ∈ WS0 := ws0_t (i := 591) (by decide +kernel) (by decide +kernel)
theorem q592 : (Jvm.Cond.code ({ cls := "TextPipeline$Sides", name := "findOrder", desc := "(I)V" } : Jvm.MethodName) prog_7_method_5_code (3 : Nat) (Option.none : Option Jvm.ClassFile.FieldType)) ∈ WS0 := ws0_t (i := 592) (by decide +kernel) (by decide +kernel)
theorem q593 : (Jvm.Cond.methodLink "TextPipeline$Sides" (61 : Nat) ({ cls := "TextPipeline$Sides", name := "turnRows", desc := "(II)V" } : Jvm.MethodName)) ∈ WS0 := ws0_t (i := 593) (by decide +kernel) (by decide +kernel)
theorem q595 : (Jvm.Cond.instanceMethod ({ cls := "TextPipeline$Sides", name := "turnRows", desc := "(II)V" } : Jvm.MethodName)) ∈ WS0 := ws0_t (i := 595) (by decide +kernel) (by decide +kernel)
theorem q596 : (Jvm.Cond.code ({ cls := "TextPipeline$Sides", name := "turnRows", desc := "(II)V" } : Jvm.MethodName) prog_7_method_21_code (5 : Nat) (Option.none : Option Jvm.ClassFile.FieldType)) ∈ WS0 := ws0_t (i := 596) (by decide +kernel) (by decide +kernel)
theorem q597 : (Jvm.Cond.methodLink "TextPipeline$Sides" (91 : Nat) ({ cls := "TextPipeline$Sides", name := "turnRound", desc := "(II)V" } : Jvm.MethodName)) ∈ WS0 := ws0_t (i := 597) (by decide +kernel) (by decide +kernel)
theorem q599 : (Jvm.Cond.instanceMethod ({ cls := "TextPipeline$Sides", name := "turnRound", desc := "(II)V" } : Jvm.MethodName)) ∈ WS0 := ws0_t (i := 599) (by decide +kernel) (by decide +kernel)
theorem q600 : (Jvm.Cond.code ({ cls := "TextPipeline$Sides", name := "turnRound", desc := "(II)V" } : Jvm.MethodName) prog_7_method_22_code (6 : Nat) (Option.none : Option Jvm.ClassFile.FieldType)) ∈ WS0 := ws0_t (i := 600) (by decide +kernel) (by decide +kernel)
theorem q601 : (Jvm.Cond.methodLink "TextPipeline" (154 : Nat) ({ cls := "TextPipeline$Sides", name := "readAs", desc := "(I)I" } : Jvm.MethodName)) ∈ WS0 := ws0_t (i := 601) (by decide +kernel) (by decide +kernel)
theorem q602 : (Jvm.Cond.instanceMethod ({ cls := "TextPipeline$Sides", name := "readAs", desc := "(I)I" } : Jvm.MethodName)) ∈ WS0 := ws0_t (i := 602) (by decide +kernel) (by decide +kernel)
theorem q603 : (Jvm.Cond.selects "TextPipeline$Sides" ({ cls := "TextPipeline$Sides", name := "readAs", desc := "(I)I" } : Jvm.MethodName) ({ cls := "TextPipeline$Sides", name := "readAs", desc := "(I)I" } : Jvm.MethodName)) ∈ WS0 := ws0_t (i := 603) (by decide +kernel) (by decide +kernel)
theorem q604 : (Jvm.Cond.code ({ cls := "TextPipeline$Sides", name := "readAs", desc := "(I)I" } : Jvm.MethodName) prog_7_method_3_code (2 : Nat) (Option.some Jvm.ClassFile.FieldType.int)) ∈ WS0 := ws0_t (i := 604) (by decide +kernel) (by decide +kernel)
theorem q605 : (Jvm.Cond.methodLink "TextPipelineLaw" (115 : Nat) ({ cls := "TextPipelineLaw", name := "keyAt", desc := "(LTextPipeline;I[J)I" } : Jvm.MethodName)) ∈ WS0 := ws0_t (i := 605) (by decide +kernel) (by decide +kernel)
theorem q606 : (Jvm.Cond.static ({ cls := "TextPipelineLaw", name := "keyAt", desc := "(LTextPipeline;I[J)I" } : Jvm.MethodName)) ∈ WS0 := ws0_t (i := 606) (by decide +kernel) (by decide +kernel)
theorem q608 : (Jvm.Cond.methodLink "TextPipelineLaw" (48 : Nat) ({ cls := "TextPipeline", name := "keyAt", desc := "(I)I" } : Jvm.MethodName)) ∈ WS0 := ws0_t (i := 608) (by decide +kernel) (by decide +kernel)
theorem q609 : (Jvm.Cond.instanceMethod ({ cls := "TextPipeline", name := "keyAt", desc := "(I)I" } : Jvm.MethodName)) ∈ WS0 := ws0_t (i := 609) (by decide +kernel) (by decide +kernel)
theorem q610 : (Jvm.Cond.selects "TextPipeline" ({ cls := "TextPipeline", name := "keyAt", desc := "(I)I" } : Jvm.MethodName) ({ cls := "TextPipeline", name := "keyAt", desc := "(I)I" } : Jvm.MethodName)) ∈ WS0 := ws0_t (i := 610) (by decide +kernel) (by decide +kernel)
theorem q611 : (Jvm.Cond.code ({ cls := "TextPipeline", name := "keyAt", desc := "(I)I" } : Jvm.MethodName) prog_1_method_14_code (2 : Nat) (Option.some Jvm.ClassFile.FieldType.int)) ∈ WS0 := ws0_t (i := 611) (by decide +kernel) (by decide +kernel)
theorem q613 : (Jvm.Cond.methodLink "TextPipelineLaw" (118 : Nat) ({ cls := "TextPipelineLaw", name := "keep", desc := "(LTextPipeline;I)I" } : Jvm.MethodName)) ∈ WS0 := ws0_t (i := 613) (by decide +kernel) (by decide +kernel)
theorem q614 : (Jvm.Cond.static ({ cls := "TextPipelineLaw", name := "keep", desc := "(LTextPipeline;I)I" } : Jvm.MethodName)) ∈ WS0 := ws0_t (i := 614) (by decide +kernel) (by decide +kernel)
theorem q616 : (Jvm.Cond.methodLink "TextPipelineLaw" (51 : Nat) ({ cls := "TextPipeline", name := "keep", desc := "(I)V" } : Jvm.MethodName)) ∈ WS0 := ws0_t (i := 616) (by decide +kernel) (by decide +kernel)
theorem q617 : (Jvm.Cond.instanceMethod ({ cls := "TextPipeline", name := "keep", desc := "(I)V" } : Jvm.MethodName)) ∈ WS0 := ws0_t (i := 617) (by decide +kernel) (by decide +kernel)
theorem q618 : (Jvm.Cond.selects "TextPipeline" ({ cls := "TextPipeline", name := "keep", desc := "(I)V" } : Jvm.MethodName) ({ cls := "TextPipeline", name := "keep", desc := "(I)V" } : Jvm.MethodName)) ∈ WS0 := ws0_t (i := 618) (by decide +kernel) (by decide +kernel)
theorem q619 : (Jvm.Cond.code ({ cls := "TextPipeline", name := "keep", desc := "(I)V" } : Jvm.MethodName) prog_1_method_15_code (2 : Nat) (Option.none : Option Jvm.ClassFile.FieldType)) ∈ WS0 := ws0_t (i := 619) (by decide +kernel) (by decide +kernel)
theorem q620 : (Jvm.Cond.methodLink "TextPipeline" (165 : Nat) ({ cls := "TextPipeline", name := "requireSlot", desc := "(I)V" } : Jvm.MethodName)) ∈ WS0 := ws0_t (i := 620) (by decide +kernel) (by decide +kernel)
theorem q621 : (Jvm.Cond.static ({ cls := "TextPipeline", name := "requireSlot", desc := "(I)V" } : Jvm.MethodName)) ∈ WS0 := ws0_t (i := 621) (by decide +kernel) (by decide +kernel)
theorem q622 : (Jvm.Cond.code ({ cls := "TextPipeline", name := "requireSlot", desc := "(I)V" } : Jvm.MethodName) prog_1_method_21_code (1 : Nat) (Option.none : Option Jvm.ClassFile.FieldType)) ∈ WS0 := ws0_t (i := 622) (by decide +kernel) (by decide +kernel)
theorem q624 : (Jvm.Cond.methodLink "TextPipelineLaw" (122 : Nat) ({ cls := "TextPipelineLaw", name := "compare", desc := "(LTextPipeline;I[J)I" } : Jvm.MethodName)) ∈ WS0 := ws0_t (i := 624) (by decide +kernel) (by decide +kernel)
theorem q625 : (Jvm.Cond.static ({ cls := "TextPipelineLaw", name := "compare", desc := "(LTextPipeline;I[J)I" } : Jvm.MethodName)) ∈ WS0 := ws0_t (i := 625) (by decide +kernel) (by decide +kernel)
theorem q627 : (Jvm.Cond.methodLink "TextPipelineLaw" (55 : Nat) ({ cls := "TextPipeline", name := "compare", desc := "(I)I" } : Jvm.MethodName)) ∈ WS0 := ws0_t (i := 627) (by decide +kernel) (by decide +kernel)
theorem q628 : (Jvm.Cond.instanceMethod ({ cls := "TextPipeline", name := "compare", desc := "(I)I" } : Jvm.MethodName)) ∈ WS0 := ws0_t (i := 628) (by decide +kernel) (by decide +kernel)
theorem q629 : (Jvm.Cond.selects "TextPipeline" ({ cls := "TextPipeline", name := "compare", desc := "(I)I" } : Jvm.MethodName) ({ cls := "TextPipeline", name := "compare", desc := "(I)I" } : Jvm.MethodName)) ∈ WS0 := ws0_t (i := 629) (by decide +kernel) (by decide +kernel)
theorem q630 : (Jvm.Cond.code ({ cls := "TextPipeline", name := "compare", desc := "(I)I" } : Jvm.MethodName) prog_1_method_16_code (2 : Nat) (Option.some Jvm.ClassFile.FieldType.int)) ∈ WS0 := ws0_t (i := 630) (by decide +kernel) (by decide +kernel)
theorem q631 : (Jvm.Cond.methodLink "TextPipeline" (171 : Nat) ({ cls := "TextPipeline$Row", name := "comparedWith", desc := "(LTextPipeline$Row;)I" } : Jvm.MethodName)) ∈ WS0 := ws0_t (i := 631) (by decide +kernel) (by decide +kernel)
theorem q632 : (Jvm.Cond.instanceMethod ({ cls := "TextPipeline$Row", name := "comparedWith", desc := "(LTextPipeline$Row;)I" } : Jvm.MethodName)) ∈ WS0 := ws0_t (i := 632) (by decide +kernel) (by decide +kernel)
theorem q633 : (Jvm.Cond.selects "TextPipeline$Row" ({ cls := "TextPipeline$Row", name := "comparedWith", desc := "(LTextPipeline$Row;)I" } : Jvm.MethodName) ({ cls := "TextPipeline$Row", name := "comparedWith", desc := "(LTextPipeline$Row;)I" } : Jvm.MethodName)) ∈ WS0 := ws0_t (i := 633) (by decide +kernel) (by decide +kernel)
theorem q634 : (Jvm.Cond.code ({ cls := "TextPipeline$Row", name := "comparedWith", desc := "(LTextPipeline$Row;)I" } : Jvm.MethodName) prog_6_method_9_code (4 : Nat) (Option.some Jvm.ClassFile.FieldType.int)) ∈ WS0 := ws0_t (i := 634) (by decide +kernel) (by decide +kernel)
theorem q635 : (Jvm.Cond.methodLink "TextPipeline$Row" (30 : Nat) ({ cls := "java/lang/Integer", name := "compare", desc := "(II)I" } : Jvm.MethodName)) ∈ WS0 := ws0_t (i := 635) (by decide +kernel) (by decide +kernel)
theorem q636 : (Jvm.Cond.static ({ cls := "java/lang/Integer", name := "compare", desc := "(II)I" } : Jvm.MethodName)) ∈ WS0 := ws0_t (i := 636) (by decide +kernel) (by decide +kernel)
theorem q637 : (Jvm.Cond.code ({ cls := "java/lang/Integer", name := "compare", desc := "(II)I" } : Jvm.MethodName) prog_15_method_40_code (2 : Nat) (Option.some Jvm.ClassFile.FieldType.int)) ∈ WS0 := ws0_t (i := 637) (by decide +kernel) (by decide +kernel)
theorem q638 : (Jvm.Cond.methodLink "TextPipelineLaw" (125 : Nat) ({ cls := "TextPipelineLaw", name := "same", desc := "(LTextPipeline;I[J)I" } : Jvm.MethodName)) ∈ WS0 := ws0_t (i := 638) (by decide +kernel) (by decide +kernel)
theorem q639 : (Jvm.Cond.static ({ cls := "TextPipelineLaw", name := "same", desc := "(LTextPipeline;I[J)I" } : Jvm.MethodName)) ∈ WS0 := ws0_t (i := 639) (by decide +kernel) (by decide +kernel)
theorem q641 : (Jvm.Cond.methodLink "TextPipelineLaw" (58 : Nat) ({ cls := "TextPipeline", name := "same", desc := "(I)Z" } : Jvm.MethodName)) ∈ WS0 := ws0_t (i := 641) (by decide +kernel) (by decide +kernel)
theorem q642 : (Jvm.Cond.instanceMethod ({ cls := "TextPipeline", name := "same", desc := "(I)Z" } : Jvm.MethodName)) ∈ WS0 := ws0_t (i := 642) (by decide +kernel) (by decide +kernel)
theorem q643 : (Jvm.Cond.selects "TextPipeline" ({ cls := "TextPipeline", name := "same", desc := "(I)Z" } : Jvm.MethodName) ({ cls := "TextPipeline", name := "same", desc := "(I)Z" } : Jvm.MethodName)) ∈ WS0 := ws0_t (i := 643) (by decide +kernel) (by decide +kernel)
theorem q644 : (Jvm.Cond.code ({ cls := "TextPipeline", name := "same", desc := "(I)Z" } : Jvm.MethodName) prog_1_method_17_code (2 : Nat) (Option.some Jvm.ClassFile.FieldType.boolean)) ∈ WS0 := ws0_t (i := 644) (by decide +kernel) (by decide +kernel)
theorem q645 : (Jvm.Cond.classLink "TextPipelineLaw" (62 : Nat) "TextPipelineModel") ∈ WS0 := ws0_t (i := 645) (by decide +kernel) (by decide +kernel)
theorem q646 : (Jvm.Cond.instantiable "TextPipelineModel" (24 : Nat)) ∈ WS0 := ws0_t (i := 646) (by decide +kernel) (by decide +kernel)
theorem q647 : (Jvm.Cond.methodLink "TextPipelineLaw" (64 : Nat) ({ cls := "TextPipelineModel", name := "<init>", desc := "()V" } : Jvm.MethodName)) ∈ WS0 := ws0_t (i := 647) (by decide +kernel) (by decide +kernel)
theorem q648 : (Jvm.Cond.instanceMethod ({ cls := "TextPipelineModel", name := "<init>", desc := "()V" } : Jvm.MethodName)) ∈ WS0 := ws0_t (i := 648) (by decide +kernel) (by decide +kernel)
theorem q649 : (Jvm.Cond.code ({ cls := "TextPipelineModel", name := "<init>", desc := "()V" } : Jvm.MethodName) prog_10_method_1_code (2 : Nat) (Option.none : Option Jvm.ClassFile.FieldType)) ∈ WS0 := ws0_t (i := 649) (by decide +kernel) (by decide +kernel)
theorem q650 : (Jvm.Cond.methodLink "TextPipelineModel" (1 : Nat) ({ cls := "java/lang/Object", name := "<init>", desc := "()V" } : Jvm.MethodName)) ∈ WS0 := ws0_t (i := 650) (by decide +kernel) (by decide +kernel)
theorem q651 : (Jvm.Cond.fieldLink "TextPipelineModel" (65 : Nat) "TextPipelineModel" "thrown" "I") ∈ WS0 := ws0_t (i := 651) (by decide +kernel) (by decide +kernel)
theorem q652 : (Jvm.Cond.fieldLink "TextPipelineModel" (7 : Nat) "TextPipelineModel" "table" "[I") ∈ WS0 := ws0_t (i := 652) (by decide +kernel) (by decide +kernel)
theorem q653 : (Jvm.Cond.fieldLink "TextPipelineModel" (13 : Nat) "TextPipelineModel" "first" "[I") ∈ WS0 := ws0_t (i := 653) (by decide +kernel) (by decide +kernel)
theorem q654 : (Jvm.Cond.fieldLink "TextPipelineModel" (16 : Nat) "TextPipelineModel" "second" "[I") ∈ WS0 := ws0_t (i := 654) (by decide +kernel) (by decide +kernel)
theorem q655 : (Jvm.Cond.fieldLink "TextPipelineModel" (19 : Nat) "TextPipelineModel" "left" "[Z") ∈ WS0 := ws0_t (i := 655) (by decide +kernel) (by decide +kernel)
theorem q656 : (Jvm.Cond.fieldLink "TextPipelineModel" (23 : Nat) "TextPipelineModel" "counts" "[I") ∈ WS0 := ws0_t (i := 656) (by decide +kernel) (by decide +kernel)
theorem q657 : (Jvm.Cond.fieldLink "TextPipelineModel" (77 : Nat) "TextPipelineModel" "length" "I") ∈ WS0 := ws0_t (i := 657) (by decide +kernel) (by decide +kernel)
theorem q658 : (Jvm.Cond.fieldLink "TextPipelineModel" (26 : Nat) "TextPipelineModel" "text" "[I") ∈ WS0 := ws0_t (i := 658) (by decide +kernel) (by decide +kernel)
theorem q659 : (Jvm.Cond.fieldLink "TextPipelineModel" (29 : Nat) "TextPipelineModel" "keptLength" "[I") ∈ WS0 := ws0_t (i := 659) (by decide +kernel) (by decide +kernel)
theorem q660 : (Jvm.Cond.fieldLink "TextPipelineModel" (32 : Nat) "TextPipelineModel" "kept" "[I") ∈ WS0 := ws0_t (i := 660) (by decide +kernel) (by decide +kernel)
theorem q661 : (Jvm.Cond.fieldLink "TextPipelineModel" (84 : Nat) "TextPipelineModel" "formLength" "I") ∈ WS0 := ws0_t (i := 661) (by decide +kernel) (by decide +kernel)
theorem q662 : (Jvm.Cond.fieldLink "TextPipelineModel" (35 : Nat) "TextPipelineModel" "form" "[I") ∈ WS0 := ws0_t (i := 662) (by decide +kernel) (by decide +kernel)
theorem q663 : (Jvm.Cond.fieldLink "TextPipelineModel" (202 : Nat) "TextPipelineModel" "otherLength" "I") ∈ WS0 := ws0_t (i := 663) (by decide +kernel) (by decide +kernel)
theorem q664 : (Jvm.Cond.fieldLink "TextPipelineModel" (38 : Nat) "TextPipelineModel" "other" "[I") ∈ WS0 := ws0_t (i := 664) (by decide +kernel) (by decide +kernel)
theorem q665 : (Jvm.Cond.fieldLink "TextPipelineModel" (41 : Nat) "TextPipelineModel" "pile" "[I") ∈ WS0 := ws0_t (i := 665) (by decide +kernel) (by decide +kernel)
theorem q666 : (Jvm.Cond.fieldLink "TextPipelineModel" (184 : Nat) "TextPipelineModel" "keyLength" "I") ∈ WS0 := ws0_t (i := 666) (by decide +kernel) (by decide +kernel)
theorem q667 : (Jvm.Cond.fieldLink "TextPipelineModel" (44 : Nat) "TextPipelineModel" "numbers" "[I") ∈ WS0 := ws0_t (i := 667) (by decide +kernel) (by decide +kernel)
theorem q668 : (Jvm.Cond.fieldLink "TextPipelineModel" (199 : Nat) "TextPipelineModel" "otherKeyLength" "I") ∈ WS0 := ws0_t (i := 668) (by decide +kernel) (by decide +kernel)
theorem q669 : (Jvm.Cond.fieldLink "TextPipelineModel" (47 : Nat) "TextPipelineModel" "otherNumbers" "[I") ∈ WS0 := ws0_t (i := 669) (by decide +kernel) (by decide +kernel)
theorem q670 : (Jvm.Cond.fieldLink "TextPipelineModel" (50 : Nat) "TextPipelineModel" "lineClass" "[I") ∈ WS0 := ws0_t (i := 670) (by decide +kernel) (by decide +kernel)
theorem q671 : (Jvm.Cond.fieldLink "TextPipelineModel" (53 : Nat) "TextPipelineModel" "follows" "[Z") ∈ WS0 := ws0_t (i := 671) (by decide +kernel) (by decide +kernel)
theorem q672 : (Jvm.Cond.fieldLink "TextPipelineModel" (56 : Nat) "TextPipelineModel" "side" "[I") ∈ WS0 := ws0_t (i := 672) (by decide +kernel) (by decide +kernel)
theorem q673 : (Jvm.Cond.fieldLink "TextPipelineModel" (59 : Nat) "TextPipelineModel" "levels" "[I") ∈ WS0 := ws0_t (i := 673) (by decide +kernel) (by decide +kernel)
theorem q674 : (Jvm.Cond.fieldLink "TextPipelineModel" (62 : Nat) "TextPipelineModel" "orders" "[I") ∈ WS0 := ws0_t (i := 674) (by decide +kernel) (by decide +kernel)
theorem q675 : (Jvm.Cond.lays "TextPipelineModel" "TextPipelineModel" "thrown" "I") ∈ WS0 := ws0_t (i := 675) (by decide +kernel) (by decide +kernel)
theorem q677 : (Jvm.Cond.lays "TextPipelineModel" "TextPipelineModel" "table" "[I") ∈ WS0 := ws0_t (i := 677) (by decide +kernel) (by decide +kernel)
theorem q679 : (Jvm.Cond.lays "TextPipelineModel" "TextPipelineModel" "first" "[I") ∈ WS0 := ws0_t (i := 679) (by decide +kernel) (by decide +kernel)
theorem q681 : (Jvm.Cond.lays "TextPipelineModel" "TextPipelineModel" "second" "[I") ∈ WS0 := ws0_t (i := 681) (by decide +kernel) (by decide +kernel)
theorem q683 : (Jvm.Cond.lays "TextPipelineModel" "TextPipelineModel" "left" "[Z") ∈ WS0 := ws0_t (i := 683) (by decide +kernel) (by decide +kernel)
theorem q685 : (Jvm.Cond.lays "TextPipelineModel" "TextPipelineModel" "counts" "[I") ∈ WS0 := ws0_t (i := 685) (by decide +kernel) (by decide +kernel)
theorem q687 : (Jvm.Cond.lays "TextPipelineModel" "TextPipelineModel" "length" "I") ∈ WS0 := ws0_t (i := 687) (by decide +kernel) (by decide +kernel)
theorem q689 : (Jvm.Cond.lays "TextPipelineModel" "TextPipelineModel" "text" "[I") ∈ WS0 := ws0_t (i := 689) (by decide +kernel) (by decide +kernel)
theorem q691 : (Jvm.Cond.lays "TextPipelineModel" "TextPipelineModel" "keptLength" "[I") ∈ WS0 := ws0_t (i := 691) (by decide +kernel) (by decide +kernel)
theorem q693 : (Jvm.Cond.lays "TextPipelineModel" "TextPipelineModel" "kept" "[I") ∈ WS0 := ws0_t (i := 693) (by decide +kernel) (by decide +kernel)
theorem q695 : (Jvm.Cond.lays "TextPipelineModel" "TextPipelineModel" "formLength" "I") ∈ WS0 := ws0_t (i := 695) (by decide +kernel) (by decide +kernel)
theorem q697 : (Jvm.Cond.lays "TextPipelineModel" "TextPipelineModel" "form" "[I") ∈ WS0 := ws0_t (i := 697) (by decide +kernel) (by decide +kernel)
theorem q699 : (Jvm.Cond.lays "TextPipelineModel" "TextPipelineModel" "otherLength" "I") ∈ WS0 := ws0_t (i := 699) (by decide +kernel) (by decide +kernel)
theorem q701 : (Jvm.Cond.lays "TextPipelineModel" "TextPipelineModel" "other" "[I") ∈ WS0 := ws0_t (i := 701) (by decide +kernel) (by decide +kernel)
theorem q703 : (Jvm.Cond.lays "TextPipelineModel" "TextPipelineModel" "pile" "[I") ∈ WS0 := ws0_t (i := 703) (by decide +kernel) (by decide +kernel)
theorem q705 : (Jvm.Cond.lays "TextPipelineModel" "TextPipelineModel" "keyLength" "I") ∈ WS0 := ws0_t (i := 705) (by decide +kernel) (by decide +kernel)
theorem q707 : (Jvm.Cond.lays "TextPipelineModel" "TextPipelineModel" "numbers" "[I") ∈ WS0 := ws0_t (i := 707) (by decide +kernel) (by decide +kernel)
theorem q709 : (Jvm.Cond.lays "TextPipelineModel" "TextPipelineModel" "otherKeyLength" "I") ∈ WS0 := ws0_t (i := 709) (by decide +kernel) (by decide +kernel)
theorem q711 : (Jvm.Cond.lays "TextPipelineModel" "TextPipelineModel" "otherNumbers" "[I") ∈ WS0 := ws0_t (i := 711) (by decide +kernel) (by decide +kernel)
theorem q713 : (Jvm.Cond.lays "TextPipelineModel" "TextPipelineModel" "lineClass" "[I") ∈ WS0 := ws0_t (i := 713) (by decide +kernel) (by decide +kernel)
theorem q715 : (Jvm.Cond.lays "TextPipelineModel" "TextPipelineModel" "follows" "[Z") ∈ WS0 := ws0_t (i := 715) (by decide +kernel) (by decide +kernel)
theorem q717 : (Jvm.Cond.lays "TextPipelineModel" "TextPipelineModel" "side" "[I") ∈ WS0 := ws0_t (i := 717) (by decide +kernel) (by decide +kernel)
theorem q719 : (Jvm.Cond.lays "TextPipelineModel" "TextPipelineModel" "levels" "[I") ∈ WS0 := ws0_t (i := 719) (by decide +kernel) (by decide +kernel)
theorem q721 : (Jvm.Cond.lays "TextPipelineModel" "TextPipelineModel" "orders" "[I") ∈ WS0 := ws0_t (i := 721) (by decide +kernel) (by decide +kernel)
theorem q724 : (Jvm.Cond.methodLink "TextPipelineLaw" (71 : Nat) ({ cls := "TextPipelineModel", name := "thrown", desc := "()I" } : Jvm.MethodName)) ∈ WS0 := ws0_t (i := 724) (by decide +kernel) (by decide +kernel)
theorem q725 : (Jvm.Cond.instanceMethod ({ cls := "TextPipelineModel", name := "thrown", desc := "()I" } : Jvm.MethodName)) ∈ WS0 := ws0_t (i := 725) (by decide +kernel) (by decide +kernel)
theorem q726 : (Jvm.Cond.selects "TextPipelineModel" ({ cls := "TextPipelineModel", name := "thrown", desc := "()I" } : Jvm.MethodName) ({ cls := "TextPipelineModel", name := "thrown", desc := "()I" } : Jvm.MethodName)) ∈ WS0 := ws0_t (i := 726) (by decide +kernel) (by decide +kernel)
theorem q727 : (Jvm.Cond.code ({ cls := "TextPipelineModel", name := "thrown", desc := "()I" } : Jvm.MethodName) prog_10_method_2_code (1 : Nat) (Option.some Jvm.ClassFile.FieldType.int)) ∈ WS0 := ws0_t (i := 727) (by decide +kernel) (by decide +kernel)
theorem q728 : (Jvm.Cond.methodLink "TextPipelineLaw" (70 : Nat) ({ cls := "TextPipelineModel", name := "set", desc := "(III)V" } : Jvm.MethodName)) ∈ WS0 := ws0_t (i := 728) (by decide +kernel) (by decide +kernel)
theorem q729 : (Jvm.Cond.instanceMethod ({ cls := "TextPipelineModel", name := "set", desc := "(III)V" } : Jvm.MethodName)) ∈ WS0 := ws0_t (i := 729) (by decide +kernel) (by decide +kernel)
theorem q730 : (Jvm.Cond.selects "TextPipelineModel" ({ cls := "TextPipelineModel", name := "set", desc := "(III)V" } : Jvm.MethodName) ({ cls := "TextPipelineModel", name := "set", desc := "(III)V" } : Jvm.MethodName)) ∈ WS0 := ws0_t (i := 730) (by decide +kernel) (by decide +kernel)
theorem q731 : (Jvm.Cond.code ({ cls := "TextPipelineModel", name := "set", desc := "(III)V" } : Jvm.MethodName) prog_10_method_3_code (5 : Nat) (Option.none : Option Jvm.ClassFile.FieldType)) ∈ WS0 := ws0_t (i := 731) (by decide +kernel) (by decide +kernel)
theorem q732 : (Jvm.Cond.methodLink "TextPipelineLaw" (78 : Nat) ({ cls := "TextPipelineModel", name := "part", desc := "(IIIZ)V" } : Jvm.MethodName)) ∈ WS0 := ws0_t (i := 732) (by decide +kernel) (by decide +kernel)
theorem q733 : (Jvm.Cond.instanceMethod ({ cls := "TextPipelineModel", name := "part", desc := "(IIIZ)V" } : Jvm.MethodName)) ∈ WS0 := ws0_t (i := 733) (by decide +kernel) (by decide +kernel)
theorem q734 : (Jvm.Cond.selects "TextPipelineModel" ({ cls := "TextPipelineModel", name := "part", desc := "(IIIZ)V" } : Jvm.MethodName) ({ cls := "TextPipelineModel", name := "part", desc := "(IIIZ)V" } : Jvm.MethodName)) ∈ WS0 := ws0_t (i := 734) (by decide +kernel) (by decide +kernel)
theorem q735 : (Jvm.Cond.code ({ cls := "TextPipelineModel", name := "part", desc := "(IIIZ)V" } : Jvm.MethodName) prog_10_method_5_code (7 : Nat) (Option.none : Option Jvm.ClassFile.FieldType)) ∈ WS0 := ws0_t (i := 735) (by decide +kernel) (by decide +kernel)
theorem q736 : (Jvm.Cond.methodLink "TextPipelineModel" (69 : Nat) ({ cls := "TextPipelineModel", name := "isShort", desc := "()Z" } : Jvm.MethodName)) ∈ WS0 := ws0_t (i := 736) (by decide +kernel) (by decide +kernel)
theorem q738 : (Jvm.Cond.instanceMethod ({ cls := "TextPipelineModel", name := "isShort", desc := "()Z" } : Jvm.MethodName)) ∈ WS0 := ws0_t (i := 738) (by decide +kernel) (by decide +kernel)
theorem q739 : (Jvm.Cond.code ({ cls := "TextPipelineModel", name := "isShort", desc := "()Z" } : Jvm.MethodName) prog_10_method_4_code (3 : Nat) (Option.some Jvm.ClassFile.FieldType.boolean)) ∈ WS0 := ws0_t (i := 739) (by decide +kernel) (by decide +kernel)
theorem q740 : (Jvm.Cond.methodLink "TextPipelineLaw" (82 : Nat) ({ cls := "TextPipelineModel", name := "type", desc := "(I)I" } : Jvm.MethodName)) ∈ WS0 := ws0_t (i := 740) (by decide +kernel) (by decide +kernel)
theorem q741 : (Jvm.Cond.instanceMethod ({ cls := "TextPipelineModel", name := "type", desc := "(I)I" } : Jvm.MethodName)) ∈ WS0 := ws0_t (i := 741) (by decide +kernel) (by decide +kernel)
theorem q742 : (Jvm.Cond.selects "TextPipelineModel" ({ cls := "TextPipelineModel", name := "type", desc := "(I)I" } : Jvm.MethodName) ({ cls := "TextPipelineModel", name := "type", desc := "(I)I" } : Jvm.MethodName)) ∈ WS0 := ws0_t (i := 742) (by decide +kernel) (by decide +kernel)
theorem q743 : (Jvm.Cond.code ({ cls := "TextPipelineModel", name := "type", desc := "(I)I" } : Jvm.MethodName) prog_10_method_16_code (2 : Nat) (Option.some Jvm.ClassFile.FieldType.int)) ∈ WS0 := ws0_t (i := 743) (by decide +kernel) (by decide +kernel)
theorem q744 : (Jvm.Cond.methodLink "TextPipelineLaw" (86 : Nat) ({ cls := "TextPipelineModel", name := "wipe", desc := "()V" } : Jvm.MethodName)) ∈ WS0 := ws0_t (i := 744) (by decide +kernel) (by decide +kernel)
theorem q745 : (Jvm.Cond.instanceMethod ({ cls := "TextPipelineModel", name := "wipe", desc := "()V" } : Jvm.MethodName)) ∈ WS0 := ws0_t (i := 745) (by decide +kernel) (by decide +kernel)
theorem q746 : (Jvm.Cond.selects "TextPipelineModel" ({ cls := "TextPipelineModel", name := "wipe", desc := "()V" } : Jvm.MethodName) ({ cls := "TextPipelineModel", name := "wipe", desc := "()V" } : Jvm.MethodName)) ∈ WS0 := ws0_t (i := 746) (by decide +kernel) (by decide +kernel)
theorem q747 : (Jvm.Cond.code ({ cls := "TextPipelineModel", name := "wipe", desc := "()V" } : Jvm.MethodName) prog_10_method_17_code (1 : Nat) (Option.none : Option Jvm.ClassFile.FieldType)) ∈ WS0 := ws0_t (i := 747) (by decide +kernel) (by decide +kernel)
theorem q748 : (Jvm.Cond.methodLink "TextPipelineLaw" (93 : Nat) ({ cls := "TextPipelineModel", name := "at", desc := "(I)I" } : Jvm.MethodName)) ∈ WS0 := ws0_t (i := 748) (by decide +kernel) (by decide +kernel)
theorem q749 : (Jvm.Cond.instanceMethod ({ cls := "TextPipelineModel", name := "at", desc := "(I)I" } : Jvm.MethodName)) ∈ WS0 := ws0_t (i := 749) (by decide +kernel) (by decide +kernel)
theorem q750 : (Jvm.Cond.selects "TextPipelineModel" ({ cls := "TextPipelineModel", name := "at", desc := "(I)I" } : Jvm.MethodName) ({ cls := "TextPipelineModel", name := "at", desc := "(I)I" } : Jvm.MethodName)) ∈ WS0 := ws0_t (i := 750) (by decide +kernel) (by decide +kernel)
theorem q751 : (Jvm.Cond.code ({ cls := "TextPipelineModel", name := "at", desc := "(I)I" } : Jvm.MethodName) prog_10_method_19_code (2 : Nat) (Option.some Jvm.ClassFile.FieldType.int)) ∈ WS0 := ws0_t (i := 751) (by decide +kernel) (by decide +kernel)
theorem q752 : (Jvm.Cond.methodLink "TextPipelineModel" (80 : Nat) ({ cls := "TextPipelineModel", name := "noPlace", desc := "(II)Z" } : Jvm.MethodName)) ∈ WS0 := ws0_t (i := 752) (by decide +kernel) (by decide +kernel)
theorem q754 : (Jvm.Cond.instanceMethod ({ cls := "TextPipelineModel", name := "noPlace", desc := "(II)Z" } : Jvm.MethodName)) ∈ WS0 := ws0_t (i := 754) (by decide +kernel) (by decide +kernel)
theorem q755 : (Jvm.Cond.code ({ cls := "TextPipelineModel", name := "noPlace", desc := "(II)Z" } : Jvm.MethodName) prog_10_method_18_code (3 : Nat) (Option.some Jvm.ClassFile.FieldType.boolean)) ∈ WS0 := ws0_t (i := 755) (by decide +kernel) (by decide +kernel)
theorem q756 : (Jvm.Cond.methodLink "TextPipelineLaw" (90 : Nat) ({ cls := "TextPipelineModel", name := "bring", desc := "(Z)I" } : Jvm.MethodName)) ∈ WS0 := ws0_t (i := 756) (by decide +kernel) (by decide +kernel)
theorem q757 : (Jvm.Cond.instanceMethod ({ cls := "TextPipelineModel", name := "bring", desc := "(Z)I" } : Jvm.MethodName)) ∈ WS0 := ws0_t (i := 757) (by decide +kernel) (by decide +kernel)
theorem q758 : (Jvm.Cond.selects "TextPipelineModel" ({ cls := "TextPipelineModel", name := "bring", desc := "(Z)I" } : Jvm.MethodName) ({ cls := "TextPipelineModel", name := "bring", desc := "(Z)I" } : Jvm.MethodName)) ∈ WS0 := ws0_t (i := 758) (by decide +kernel) (by decide +kernel)
theorem q759 : (Jvm.Cond.code ({ cls := "TextPipelineModel", name := "bring", desc := "(Z)I" } : Jvm.MethodName) prog_10_method_29_code (3 : Nat) (Option.some Jvm.ClassFile.FieldType.int)) ∈ WS0 := ws0_t (i := 759) (by decide +kernel) (by decide +kernel)
theorem q760 : (Jvm.Cond.methodLink "TextPipelineModel" (123 : Nat) ({ cls := "TextPipelineModel", name := "partText", desc := "()V" } : Jvm.MethodName)) ∈ WS0 := ws0_t (i := 760) (by decide +kernel) (by decide +kernel)
theorem q762 : (Jvm.Cond.instanceMethod ({ cls := "TextPipelineModel", name := "partText", desc := "()V" } : Jvm.MethodName)) ∈ WS0 := ws0_t (i := 762) (by decide +kernel) (by decide +kernel)
theorem q763 : (Jvm.Cond.code ({ cls := "TextPipelineModel", name := "partText", desc := "()V" } : Jvm.MethodName) prog_10_method_23_code (2 : Nat) (Option.none : Option Jvm.ClassFile.FieldType)) ∈ WS0 := ws0_t (i := 763) (by decide +kernel) (by decide +kernel)
theorem q764 : (Jvm.Cond.methodLink "TextPipelineModel" (95 : Nat) ({ cls := "TextPipelineModel", name := "putParts", desc := "(I)V" } : Jvm.MethodName)) ∈ WS0 := ws0_t (i := 764) (by decide +kernel) (by decide +kernel)
theorem q766 : (Jvm.Cond.instanceMethod ({ cls := "TextPipelineModel", name := "putParts", desc := "(I)V" } : Jvm.MethodName)) ∈ WS0 := ws0_t (i := 766) (by decide +kernel) (by decide +kernel)
theorem q767 : (Jvm.Cond.code ({ cls := "TextPipelineModel", name := "putParts", desc := "(I)V" } : Jvm.MethodName) prog_10_method_21_code (4 : Nat) (Option.none : Option Jvm.ClassFile.FieldType)) ∈ WS0 := ws0_t (i := 767) (by decide +kernel) (by decide +kernel)
theorem q768 : (Jvm.Cond.methodLink "TextPipelineModel" (87 : Nat) ({ cls := "TextPipelineModel", name := "put", desc := "(I)V" } : Jvm.MethodName)) ∈ WS0 := ws0_t (i := 768) (by decide +kernel) (by decide +kernel)
theorem q770 : (Jvm.Cond.instanceMethod ({ cls := "TextPipelineModel", name := "put", desc := "(I)V" } : Jvm.MethodName)) ∈ WS0 := ws0_t (i := 770) (by decide +kernel) (by decide +kernel)
theorem q771 : (Jvm.Cond.code ({ cls := "TextPipelineModel", name := "put", desc := "(I)V" } : Jvm.MethodName) prog_10_method_20_code (2 : Nat) (Option.none : Option Jvm.ClassFile.FieldType)) ∈ WS0 := ws0_t (i := 771) (by decide +kernel) (by decide +kernel)
theorem q772 : (Jvm.Cond.methodLink "TextPipelineModel" (98 : Nat) ({ cls := "TextPipelineModel", name := "rankForm", desc := "()V" } : Jvm.MethodName)) ∈ WS0 := ws0_t (i := 772) (by decide +kernel) (by decide +kernel)
theorem q774 : (Jvm.Cond.instanceMethod ({ cls := "TextPipelineModel", name := "rankForm", desc := "()V" } : Jvm.MethodName)) ∈ WS0 := ws0_t (i := 774) (by decide +kernel) (by decide +kernel)
theorem q775 : (Jvm.Cond.code ({ cls := "TextPipelineModel", name := "rankForm", desc := "()V" } : Jvm.MethodName) prog_10_method_22_code (5 : Nat) (Option.none : Option Jvm.ClassFile.FieldType)) ∈ WS0 := ws0_t (i := 775) (by decide +kernel) (by decide +kernel)
theorem q776 : (Jvm.Cond.methodLink "TextPipelineModel" (91 : Nat) ({ cls := "TextPipelineModel", name := "rank", desc := "(I)I" } : Jvm.MethodName)) ∈ WS0 := ws0_t (i := 776) (by decide +kernel) (by decide +kernel)
theorem q778 : (Jvm.Cond.instanceMethod ({ cls := "TextPipelineModel", name := "rank", desc := "(I)I" } : Jvm.MethodName)) ∈ WS0 := ws0_t (i := 778) (by decide +kernel) (by decide +kernel)
theorem q779 : (Jvm.Cond.code ({ cls := "TextPipelineModel", name := "rank", desc := "(I)I" } : Jvm.MethodName) prog_10_method_7_code (2 : Nat) (Option.some Jvm.ClassFile.FieldType.int)) ∈ WS0 := ws0_t (i := 779) (by decide +kernel) (by decide +kernel)
theorem q780 : (Jvm.Cond.methodLink "TextPipelineModel" (73 : Nat) ({ cls := "TextPipelineModel", name := "property", desc := "(II)I" } : Jvm.MethodName)) ∈ WS0 := ws0_t (i := 780) (by decide +kernel) (by decide +kernel)
theorem q782 : (Jvm.Cond.instanceMethod ({ cls := "TextPipelineModel", name := "property", desc := "(II)I" } : Jvm.MethodName)) ∈ WS0 := ws0_t (i := 782) (by decide +kernel) (by decide +kernel)
theorem q783 : (Jvm.Cond.code ({ cls := "TextPipelineModel", name := "property", desc := "(II)I" } : Jvm.MethodName) prog_10_method_6_code (3 : Nat) (Option.some Jvm.ClassFile.FieldType.int)) ∈ WS0 := ws0_t (i := 783) (by decide +kernel) (by decide +kernel)
theorem q784 : (Jvm.Cond.methodLink "TextPipelineModel" (126 : Nat) ({ cls := "TextPipelineModel", name := "joinForm", desc := "()V" } : Jvm.MethodName)) ∈ WS0 := ws0_t (i := 784) (by decide +kernel) (by decide +kernel)
theorem q786 : (Jvm.Cond.instanceMethod ({ cls := "TextPipelineModel", name := "joinForm", desc := "()V" } : Jvm.MethodName)) ∈ WS0 := ws0_t (i := 786) (by decide +kernel) (by decide +kernel)
theorem q787 : (Jvm.Cond.code ({ cls := "TextPipelineModel", name := "joinForm", desc := "()V" } : Jvm.MethodName) prog_10_method_28_code (5 : Nat) (Option.none : Option Jvm.ClassFile.FieldType)) ∈ WS0 := ws0_t (i := 787) (by decide +kernel) (by decide +kernel)
theorem q788 : (Jvm.Cond.methodLink "TextPipelineModel" (114 : Nat) ({ cls := "TextPipelineModel", name := "starter", desc := "(I)I" } : Jvm.MethodName)) ∈ WS0 := ws0_t (i := 788) (by decide +kernel) (by decide +kernel)
theorem q790 : (Jvm.Cond.instanceMethod ({ cls := "TextPipelineModel", name := "starter", desc := "(I)I" } : Jvm.MethodName)) ∈ WS0 := ws0_t (i := 790) (by decide +kernel) (by decide +kernel)
theorem q791 : (Jvm.Cond.code ({ cls := "TextPipelineModel", name := "starter", desc := "(I)I" } : Jvm.MethodName) prog_10_method_26_code (3 : Nat) (Option.some Jvm.ClassFile.FieldType.int)) ∈ WS0 := ws0_t (i := 791) (by decide +kernel) (by decide +kernel)
theorem q792 : (Jvm.Cond.methodLink "TextPipelineModel" (117 : Nat) ({ cls := "TextPipelineModel", name := "joins", desc := "(II)I" } : Jvm.MethodName)) ∈ WS0 := ws0_t (i := 792) (by decide +kernel) (by decide +kernel)
theorem q794 : (Jvm.Cond.instanceMethod ({ cls := "TextPipelineModel", name := "joins", desc := "(II)I" } : Jvm.MethodName)) ∈ WS0 := ws0_t (i := 794) (by decide +kernel) (by decide +kernel)
theorem q795 : (Jvm.Cond.code ({ cls := "TextPipelineModel", name := "joins", desc := "(II)I" } : Jvm.MethodName) prog_10_method_25_code (5 : Nat) (Option.some Jvm.ClassFile.FieldType.int)) ∈ WS0 := ws0_t (i := 795) (by decide +kernel) (by decide +kernel)
theorem q796 : (Jvm.Cond.methodLink "TextPipelineModel" (101 : Nat) ({ cls := "TextPipelineModel", name := "isLead", desc := "(I)Z" } : Jvm.MethodName)) ∈ WS0 := ws0_t (i := 796) (by decide +kernel) (by decide +kernel)
theorem q798 : (Jvm.Cond.instanceMethod ({ cls := "TextPipelineModel", name := "isLead", desc := "(I)Z" } : Jvm.MethodName)) ∈ WS0 := ws0_t (i := 798) (by decide +kernel) (by decide +kernel)
theorem q799 : (Jvm.Cond.code ({ cls := "TextPipelineModel", name := "isLead", desc := "(I)Z" } : Jvm.MethodName) prog_10_method_11_code (2 : Nat) (Option.some Jvm.ClassFile.FieldType.boolean)) ∈ WS0 := ws0_t (i := 799) (by decide +kernel) (by decide +kernel)
theorem q800 : (Jvm.Cond.methodLink "TextPipelineModel" (105 : Nat) ({ cls := "TextPipelineModel", name := "isVowel", desc := "(I)Z" } : Jvm.MethodName)) ∈ WS0 := ws0_t (i := 800) (by decide +kernel) (by decide +kernel)
theorem q802 : (Jvm.Cond.instanceMethod ({ cls := "TextPipelineModel", name := "isVowel", desc := "(I)Z" } : Jvm.MethodName)) ∈ WS0 := ws0_t (i := 802) (by decide +kernel) (by decide +kernel)
theorem q803 : (Jvm.Cond.code ({ cls := "TextPipelineModel", name := "isVowel", desc := "(I)Z" } : Jvm.MethodName) prog_10_method_12_code (2 : Nat) (Option.some Jvm.ClassFile.FieldType.boolean)) ∈ WS0 := ws0_t (i := 803) (by decide +kernel) (by decide +kernel)
theorem q804 : (Jvm.Cond.methodLink "TextPipelineModel" (108 : Nat) ({ cls := "TextPipelineModel", name := "isOpen", desc := "(I)Z" } : Jvm.MethodName)) ∈ WS0 := ws0_t (i := 804) (by decide +kernel) (by decide +kernel)
theorem q806 : (Jvm.Cond.instanceMethod ({ cls := "TextPipelineModel", name := "isOpen", desc := "(I)Z" } : Jvm.MethodName)) ∈ WS0 := ws0_t (i := 806) (by decide +kernel) (by decide +kernel)
theorem q807 : (Jvm.Cond.code ({ cls := "TextPipelineModel", name := "isOpen", desc := "(I)Z" } : Jvm.MethodName) prog_10_method_14_code (2 : Nat) (Option.some Jvm.ClassFile.FieldType.boolean)) ∈ WS0 := ws0_t (i := 807) (by decide +kernel) (by decide +kernel)
theorem q808 : (Jvm.Cond.methodLink "TextPipelineModel" (111 : Nat) ({ cls := "TextPipelineModel", name := "isTail", desc := "(I)Z" } : Jvm.MethodName)) ∈ WS0 := ws0_t (i := 808) (by decide +kernel) (by decide +kernel)
theorem q810 : (Jvm.Cond.instanceMethod ({ cls := "TextPipelineModel", name := "isTail", desc := "(I)Z" } : Jvm.MethodName)) ∈ WS0 := ws0_t (i := 810) (by decide +kernel) (by decide +kernel)
theorem q811 : (Jvm.Cond.code ({ cls := "TextPipelineModel", name := "isTail", desc := "(I)Z" } : Jvm.MethodName) prog_10_method_13_code (2 : Nat) (Option.some Jvm.ClassFile.FieldType.boolean)) ∈ WS0 := ws0_t (i := 811) (by decide +kernel) (by decide +kernel)
theorem q812 : (Jvm.Cond.methodLink "TextPipelineModel" (120 : Nat) ({ cls := "TextPipelineModel", name := "isFree", desc := "(II)Z" } : Jvm.MethodName)) ∈ WS0 := ws0_t (i := 812) (by decide +kernel) (by decide +kernel)
theorem q814 : (Jvm.Cond.instanceMethod ({ cls := "TextPipelineModel", name := "isFree", desc := "(II)Z" } : Jvm.MethodName)) ∈ WS0 := ws0_t (i := 814) (by decide +kernel) (by decide +kernel)
theorem q815 : (Jvm.Cond.code ({ cls := "TextPipelineModel", name := "isFree", desc := "(II)Z" } : Jvm.MethodName) prog_10_method_27_code (5 : Nat) (Option.some Jvm.ClassFile.FieldType.boolean)) ∈ WS0 := ws0_t (i := 815) (by decide +kernel) (by decide +kernel)
theorem q816 : (Jvm.Cond.methodLink "TextPipelineLaw" (96 : Nat) ({ cls := "TextPipelineModel", name := "cluster", desc := "(I)Z" } : Jvm.MethodName)) ∈ WS0 := ws0_t (i := 816) (by decide +kernel) (by decide +kernel)
theorem q817 : (Jvm.Cond.instanceMethod ({ cls := "TextPipelineModel", name := "cluster", desc := "(I)Z" } : Jvm.MethodName)) ∈ WS0 := ws0_t (i := 817) (by decide +kernel) (by decide +kernel)
theorem q818 : (Jvm.Cond.selects "TextPipelineModel" ({ cls := "TextPipelineModel", name := "cluster", desc := "(I)Z" } : Jvm.MethodName) ({ cls := "TextPipelineModel", name := "cluster", desc := "(I)Z" } : Jvm.MethodName)) ∈ WS0 := ws0_t (i := 818) (by decide +kernel) (by decide +kernel)
theorem q819 : (Jvm.Cond.code ({ cls := "TextPipelineModel", name := "cluster", desc := "(I)Z" } : Jvm.MethodName) prog_10_method_34_code (2 : Nat) (Option.some Jvm.ClassFile.FieldType.boolean)) ∈ WS0 := ws0_t (i := 819) (by decide +kernel) (by decide +kernel)
theorem q820 : (Jvm.Cond.methodLink "TextPipelineModel" (144 : Nat) ({ cls := "TextPipelineModel", name := "ends", desc := "(I)Z" } : Jvm.MethodName)) ∈ WS0 := ws0_t (i := 820) (by decide +kernel) (by decide +kernel)
theorem q822 : (Jvm.Cond.instanceMethod ({ cls := "TextPipelineModel", name := "ends", desc := "(I)Z" } : Jvm.MethodName)) ∈ WS0 := ws0_t (i := 822) (by decide +kernel) (by decide +kernel)
theorem q823 : (Jvm.Cond.code ({ cls := "TextPipelineModel", name := "ends", desc := "(I)Z" } : Jvm.MethodName) prog_10_method_33_code (5 : Nat) (Option.some Jvm.ClassFile.FieldType.boolean)) ∈ WS0 := ws0_t (i := 823) (by decide +kernel) (by decide +kernel)
theorem q824 : (Jvm.Cond.methodLink "TextPipelineModel" (129 : Nat) ({ cls := "TextPipelineModel", name := "clusterOf", desc := "(I)I" } : Jvm.MethodName)) ∈ WS0 := ws0_t (i := 824) (by decide +kernel) (by decide +kernel)
theorem q826 : (Jvm.Cond.instanceMethod ({ cls := "TextPipelineModel", name := "clusterOf", desc := "(I)I" } : Jvm.MethodName)) ∈ WS0 := ws0_t (i := 826) (by decide +kernel) (by decide +kernel)
theorem q827 : (Jvm.Cond.code ({ cls := "TextPipelineModel", name := "clusterOf", desc := "(I)I" } : Jvm.MethodName) prog_10_method_9_code (2 : Nat) (Option.some Jvm.ClassFile.FieldType.int)) ∈ WS0 := ws0_t (i := 827) (by decide +kernel) (by decide +kernel)
theorem q828 : (Jvm.Cond.methodLink "TextPipelineModel" (135 : Nat) ({ cls := "TextPipelineModel", name := "syllabic", desc := "(II)Z" } : Jvm.MethodName)) ∈ WS0 := ws0_t (i := 828) (by decide +kernel) (by decide +kernel)
theorem q830 : (Jvm.Cond.instanceMethod ({ cls := "TextPipelineModel", name := "syllabic", desc := "(II)Z" } : Jvm.MethodName)) ∈ WS0 := ws0_t (i := 830) (by decide +kernel) (by decide +kernel)
theorem q831 : (Jvm.Cond.code ({ cls := "TextPipelineModel", name := "syllabic", desc := "(II)Z" } : Jvm.MethodName) prog_10_method_32_code (3 : Nat) (Option.some Jvm.ClassFile.FieldType.boolean)) ∈ WS0 := ws0_t (i := 831) (by decide +kernel) (by decide +kernel)
theorem q832 : (Jvm.Cond.methodLink "TextPipelineModel" (132 : Nat) ({ cls := "TextPipelineModel", name := "isClosed", desc := "(I)Z" } : Jvm.MethodName)) ∈ WS0 := ws0_t (i := 832) (by decide +kernel) (by decide +kernel)
theorem q834 : (Jvm.Cond.instanceMethod ({ cls := "TextPipelineModel", name := "isClosed", desc := "(I)Z" } : Jvm.MethodName)) ∈ WS0 := ws0_t (i := 834) (by decide +kernel) (by decide +kernel)
theorem q835 : (Jvm.Cond.code ({ cls := "TextPipelineModel", name := "isClosed", desc := "(I)Z" } : Jvm.MethodName) prog_10_method_15_code (2 : Nat) (Option.some Jvm.ClassFile.FieldType.boolean)) ∈ WS0 := ws0_t (i := 835) (by decide +kernel) (by decide +kernel)
theorem q836 : (Jvm.Cond.methodLink "TextPipelineModel" (138 : Nat) ({ cls := "TextPipelineModel", name := "pictureBefore", desc := "(I)Z" } : Jvm.MethodName)) ∈ WS0 := ws0_t (i := 836) (by decide +kernel) (by decide +kernel)
theorem q838 : (Jvm.Cond.instanceMethod ({ cls := "TextPipelineModel", name := "pictureBefore", desc := "(I)Z" } : Jvm.MethodName)) ∈ WS0 := ws0_t (i := 838) (by decide +kernel) (by decide +kernel)
theorem q839 : (Jvm.Cond.code ({ cls := "TextPipelineModel", name := "pictureBefore", desc := "(I)Z" } : Jvm.MethodName) prog_10_method_30_code (3 : Nat) (Option.some Jvm.ClassFile.FieldType.boolean)) ∈ WS0 := ws0_t (i := 839) (by decide +kernel) (by decide +kernel)
theorem q840 : (Jvm.Cond.methodLink "TextPipelineModel" (141 : Nat) ({ cls := "TextPipelineModel", name := "oddRegions", desc := "(I)Z" } : Jvm.MethodName)) ∈ WS0 := ws0_t (i := 840) (by decide +kernel) (by decide +kernel)
theorem q842 : (Jvm.Cond.instanceMethod ({ cls := "TextPipelineModel", name := "oddRegions", desc := "(I)Z" } : Jvm.MethodName)) ∈ WS0 := ws0_t (i := 842) (by decide +kernel) (by decide +kernel)
theorem q843 : (Jvm.Cond.code ({ cls := "TextPipelineModel", name := "oddRegions", desc := "(I)Z" } : Jvm.MethodName) prog_10_method_31_code (3 : Nat) (Option.some Jvm.ClassFile.FieldType.boolean)) ∈ WS0 := ws0_t (i := 843) (by decide +kernel) (by decide +kernel)
theorem q844 : (Jvm.Cond.methodLink "TextPipelineLaw" (100 : Nat) ({ cls := "TextPipelineModel", name := "clusters", desc := "()I" } : Jvm.MethodName)) ∈ WS0 := ws0_t (i := 844) (by decide +kernel) (by decide +kernel)
theorem q845 : (Jvm.Cond.instanceMethod ({ cls := "TextPipelineModel", name := "clusters", desc := "()I" } : Jvm.MethodName)) ∈ WS0 := ws0_t (i := 845) (by decide +kernel) (by decide +kernel)
theorem q846 : (Jvm.Cond.selects "TextPipelineModel" ({ cls := "TextPipelineModel", name := "clusters", desc := "()I" } : Jvm.MethodName) ({ cls := "TextPipelineModel", name := "clusters", desc := "()I" } : Jvm.MethodName)) ∈ WS0 := ws0_t (i := 846) (by decide +kernel) (by decide +kernel)
theorem q847 : (Jvm.Cond.code ({ cls := "TextPipelineModel", name := "clusters", desc := "()I" } : Jvm.MethodName) prog_10_method_35_code (3 : Nat) (Option.some Jvm.ClassFile.FieldType.int)) ∈ WS0 := ws0_t (i := 847) (by decide +kernel) (by decide +kernel)
theorem q848 : (Jvm.Cond.methodLink "TextPipelineLaw" (103 : Nat) ({ cls := "TextPipelineModel", name := "line", desc := "(I)I" } : Jvm.MethodName)) ∈ WS0 := ws0_t (i := 848) (by decide +kernel) (by decide +kernel)
theorem q849 : (Jvm.Cond.instanceMethod ({ cls := "TextPipelineModel", name := "line", desc := "(I)I" } : Jvm.MethodName)) ∈ WS0 := ws0_t (i := 849) (by decide +kernel) (by decide +kernel)
theorem q850 : (Jvm.Cond.selects "TextPipelineModel" ({ cls := "TextPipelineModel", name := "line", desc := "(I)I" } : Jvm.MethodName) ({ cls := "TextPipelineModel", name := "line", desc := "(I)I" } : Jvm.MethodName)) ∈ WS0 := ws0_t (i := 850) (by decide +kernel) (by decide +kernel)
theorem q851 : (Jvm.Cond.code ({ cls := "TextPipelineModel", name := "line", desc := "(I)I" } : Jvm.MethodName) prog_10_method_39_code (6 : Nat) (Option.some Jvm.ClassFile.FieldType.int)) ∈ WS0 := ws0_t (i := 851) (by decide +kernel) (by decide +kernel)
theorem q852 : (Jvm.Cond.methodLink "TextPipelineModel" (147 : Nat) ({ cls := "TextPipelineModel", name := "classLines", desc := "()V" } : Jvm.MethodName)) ∈ WS0 := ws0_t (i := 852) (by decide +kernel) (by decide +kernel)
theorem q854 : (Jvm.Cond.instanceMethod ({ cls := "TextPipelineModel", name := "classLines", desc := "()V" } : Jvm.MethodName)) ∈ WS0 := ws0_t (i := 854) (by decide +kernel) (by decide +kernel)
theorem q855 : (Jvm.Cond.code ({ cls := "TextPipelineModel", name := "classLines", desc := "()V" } : Jvm.MethodName) prog_10_method_36_code (3 : Nat) (Option.none : Option Jvm.ClassFile.FieldType)) ∈ WS0 := ws0_t (i := 855) (by decide +kernel) (by decide +kernel)
theorem q856 : (Jvm.Cond.methodLink "TextPipelineModel" (150 : Nat) ({ cls := "TextPipelineModel", name := "overSpaces", desc := "(I)I" } : Jvm.MethodName)) ∈ WS0 := ws0_t (i := 856) (by decide +kernel) (by decide +kernel)
theorem q858 : (Jvm.Cond.instanceMethod ({ cls := "TextPipelineModel", name := "overSpaces", desc := "(I)I" } : Jvm.MethodName)) ∈ WS0 := ws0_t (i := 858) (by decide +kernel) (by decide +kernel)
theorem q859 : (Jvm.Cond.code ({ cls := "TextPipelineModel", name := "overSpaces", desc := "(I)I" } : Jvm.MethodName) prog_10_method_37_code (3 : Nat) (Option.some Jvm.ClassFile.FieldType.int)) ∈ WS0 := ws0_t (i := 859) (by decide +kernel) (by decide +kernel)
theorem q860 : (Jvm.Cond.methodLink "TextPipelineModel" (153 : Nat) ({ cls := "TextPipelineModel", name := "may", desc := "(II)Z" } : Jvm.MethodName)) ∈ WS0 := ws0_t (i := 860) (by decide +kernel) (by decide +kernel)
theorem q862 : (Jvm.Cond.instanceMethod ({ cls := "TextPipelineModel", name := "may", desc := "(II)Z" } : Jvm.MethodName)) ∈ WS0 := ws0_t (i := 862) (by decide +kernel) (by decide +kernel)
theorem q863 : (Jvm.Cond.code ({ cls := "TextPipelineModel", name := "may", desc := "(II)Z" } : Jvm.MethodName) prog_10_method_38_code (6 : Nat) (Option.some Jvm.ClassFile.FieldType.boolean)) ∈ WS0 := ws0_t (i := 863) (by decide +kernel) (by decide +kernel)
theorem q864 : (Jvm.Cond.methodLink "TextPipelineLaw" (107 : Nat) ({ cls := "TextPipelineModel", name := "level", desc := "(II)I" } : Jvm.MethodName)) ∈ WS0 := ws0_t (i := 864) (by decide +kernel) (by decide +kernel)
theorem q865 : (Jvm.Cond.instanceMethod ({ cls := "TextPipelineModel", name := "level", desc := "(II)I" } : Jvm.MethodName)) ∈ WS0 := ws0_t (i := 865) (by decide +kernel) (by decide +kernel)
theorem q866 : (Jvm.Cond.selects "TextPipelineModel" ({ cls := "TextPipelineModel", name := "level", desc := "(II)I" } : Jvm.MethodName) ({ cls := "TextPipelineModel", name := "level", desc := "(II)I" } : Jvm.MethodName)) ∈ WS0 := ws0_t (i := 866) (by decide +kernel) (by decide +kernel)
theorem q867 : (Jvm.Cond.code ({ cls := "TextPipelineModel", name := "level", desc := "(II)I" } : Jvm.MethodName) prog_10_method_47_code (3 : Nat) (Option.some Jvm.ClassFile.FieldType.int)) ∈ WS0 := ws0_t (i := 867) (by decide +kernel) (by decide +kernel)
theorem q868 : (Jvm.Cond.methodLink "TextPipelineModel" (177 : Nat) ({ cls := "TextPipelineModel", name := "findLevels", desc := "(I)V" } : Jvm.MethodName)) ∈ WS0 := ws0_t (i := 868) (by decide +kernel) (by decide +kernel)
theorem q870 : (Jvm.Cond.instanceMethod ({ cls := "TextPipelineModel", name := "findLevels", desc := "(I)V" } : Jvm.MethodName)) ∈ WS0 := ws0_t (i := 870) (by decide +kernel) (by decide +kernel)
theorem q871 : (Jvm.Cond.code ({ cls := "TextPipelineModel", name := "findLevels", desc := "(I)V" } : Jvm.MethodName) prog_10_method_46_code (6 : Nat) (Option.none : Option Jvm.ClassFile.FieldType)) ∈ WS0 := ws0_t (i := 871) (by decide +kernel) (by decide +kernel)
theorem q872 : (Jvm.Cond.methodLink "TextPipelineModel" (168 : Nat) ({ cls := "TextPipelineModel", name := "baseOf", desc := "(I)I" } : Jvm.MethodName)) ∈ WS0 := ws0_t (i := 872) (by decide +kernel) (by decide +kernel)
theorem q874 : (Jvm.Cond.instanceMethod ({ cls := "TextPipelineModel", name := "baseOf", desc := "(I)I" } : Jvm.MethodName)) ∈ WS0 := ws0_t (i := 874) (by decide +kernel) (by decide +kernel)
theorem q875 : (Jvm.Cond.code ({ cls := "TextPipelineModel", name := "baseOf", desc := "(I)I" } : Jvm.MethodName) prog_10_method_40_code (4 : Nat) (Option.some Jvm.ClassFile.FieldType.int)) ∈ WS0 := ws0_t (i := 875) (by decide +kernel) (by decide +kernel)
theorem q876 : (Jvm.Cond.methodLink "TextPipelineModel" (156 : Nat) ({ cls := "TextPipelineModel", name := "sideOf", desc := "(I)I" } : Jvm.MethodName)) ∈ WS0 := ws0_t (i := 876) (by decide +kernel) (by decide +kernel)
theorem q878 : (Jvm.Cond.instanceMethod ({ cls := "TextPipelineModel", name := "sideOf", desc := "(I)I" } : Jvm.MethodName)) ∈ WS0 := ws0_t (i := 878) (by decide +kernel) (by decide +kernel)
theorem q879 : (Jvm.Cond.code ({ cls := "TextPipelineModel", name := "sideOf", desc := "(I)I" } : Jvm.MethodName) prog_10_method_10_code (2 : Nat) (Option.some Jvm.ClassFile.FieldType.int)) ∈ WS0 := ws0_t (i := 879) (by decide +kernel) (by decide +kernel)
theorem q880 : (Jvm.Cond.methodLink "TextPipelineModel" (171 : Nat) ({ cls := "TextPipelineModel", name := "weaken", desc := "()V" } : Jvm.MethodName)) ∈ WS0 := ws0_t (i := 880) (by decide +kernel) (by decide +kernel)
theorem q882 : (Jvm.Cond.instanceMethod ({ cls := "TextPipelineModel", name := "weaken", desc := "()V" } : Jvm.MethodName)) ∈ WS0 := ws0_t (i := 882) (by decide +kernel) (by decide +kernel)
theorem q883 : (Jvm.Cond.code ({ cls := "TextPipelineModel", name := "weaken", desc := "()V" } : Jvm.MethodName) prog_10_method_42_code (5 : Nat) (Option.none : Option Jvm.ClassFile.FieldType)) ∈ WS0 := ws0_t (i := 883) (by decide +kernel) (by decide +kernel)
theorem q884 : (Jvm.Cond.methodLink "TextPipelineModel" (159 : Nat) ({ cls := "TextPipelineModel", name := "nearest", desc := "(I)I" } : Jvm.MethodName)) ∈ WS0 := ws0_t (i := 884) (by decide +kernel) (by decide +kernel)
theorem q886 : (Jvm.Cond.instanceMethod ({ cls := "TextPipelineModel", name := "nearest", desc := "(I)I" } : Jvm.MethodName)) ∈ WS0 := ws0_t (i := 886) (by decide +kernel) (by decide +kernel)
theorem q887 : (Jvm.Cond.code ({ cls := "TextPipelineModel", name := "nearest", desc := "(I)I" } : Jvm.MethodName) prog_10_method_41_code (3 : Nat) (Option.some Jvm.ClassFile.FieldType.int)) ∈ WS0 := ws0_t (i := 887) (by decide +kernel) (by decide +kernel)
theorem q888 : (Jvm.Cond.methodLink "TextPipelineModel" (162 : Nat) ({ cls := "TextPipelineModel", name := "units", desc := "()V" } : Jvm.MethodName)) ∈ WS0 := ws0_t (i := 888) (by decide +kernel) (by decide +kernel)
theorem q890 : (Jvm.Cond.instanceMethod ({ cls := "TextPipelineModel", name := "units", desc := "()V" } : Jvm.MethodName)) ∈ WS0 := ws0_t (i := 890) (by decide +kernel) (by decide +kernel)
theorem q891 : (Jvm.Cond.code ({ cls := "TextPipelineModel", name := "units", desc := "()V" } : Jvm.MethodName) prog_10_method_43_code (5 : Nat) (Option.none : Option Jvm.ClassFile.FieldType)) ∈ WS0 := ws0_t (i := 891) (by decide +kernel) (by decide +kernel)
theorem q892 : (Jvm.Cond.methodLink "TextPipelineModel" (174 : Nat) ({ cls := "TextPipelineModel", name := "neutrals", desc := "(I)V" } : Jvm.MethodName)) ∈ WS0 := ws0_t (i := 892) (by decide +kernel) (by decide +kernel)
theorem q894 : (Jvm.Cond.instanceMethod ({ cls := "TextPipelineModel", name := "neutrals", desc := "(I)V" } : Jvm.MethodName)) ∈ WS0 := ws0_t (i := 894) (by decide +kernel) (by decide +kernel)
theorem q895 : (Jvm.Cond.code ({ cls := "TextPipelineModel", name := "neutrals", desc := "(I)V" } : Jvm.MethodName) prog_10_method_45_code (7 : Nat) (Option.none : Option Jvm.ClassFile.FieldType)) ∈ WS0 := ws0_t (i := 895) (by decide +kernel) (by decide +kernel)
theorem q896 : (Jvm.Cond.methodLink "TextPipelineModel" (165 : Nat) ({ cls := "TextPipelineModel", name := "neutral", desc := "(I)Z" } : Jvm.MethodName)) ∈ WS0 := ws0_t (i := 896) (by decide +kernel) (by decide +kernel)
theorem q898 : (Jvm.Cond.instanceMethod ({ cls := "TextPipelineModel", name := "neutral", desc := "(I)Z" } : Jvm.MethodName)) ∈ WS0 := ws0_t (i := 898) (by decide +kernel) (by decide +kernel)
theorem q899 : (Jvm.Cond.code ({ cls := "TextPipelineModel", name := "neutral", desc := "(I)Z" } : Jvm.MethodName) prog_10_method_44_code (2 : Nat) (Option.some Jvm.ClassFile.FieldType.boolean)) ∈ WS0 := ws0_t (i := 899) (by decide +kernel) (by decide +kernel)
theorem q900 : (Jvm.Cond.methodLink "TextPipelineLaw" (110 : Nat) ({ cls := "TextPipelineModel", name := "order", desc := "(II)I" } : Jvm.MethodName)) ∈ WS0 := ws0_t (i := 900) (by decide +kernel) (by decide +kernel)
theorem q901 : (Jvm.Cond.instanceMethod ({ cls := "TextPipelineModel", name := "order", desc := "(II)I" } : Jvm.MethodName)) ∈ WS0 := ws0_t (i := 901) (by decide +kernel) (by decide +kernel)
theorem q902 : (Jvm.Cond.selects "TextPipelineModel" ({ cls := "TextPipelineModel", name := "order", desc := "(II)I" } : Jvm.MethodName) ({ cls := "TextPipelineModel", name := "order", desc := "(II)I" } : Jvm.MethodName)) ∈ WS0 := ws0_t (i := 902) (by decide +kernel) (by decide +kernel)
theorem q903 : (Jvm.Cond.code ({ cls := "TextPipelineModel", name := "order", desc := "(II)I" } : Jvm.MethodName) prog_10_method_49_code (6 : Nat) (Option.some Jvm.ClassFile.FieldType.int)) ∈ WS0 := ws0_t (i := 903) (by decide +kernel) (by decide +kernel)
theorem q904 : (Jvm.Cond.methodLink "TextPipelineModel" (180 : Nat) ({ cls := "TextPipelineModel", name := "turnRound", desc := "(II)V" } : Jvm.MethodName)) ∈ WS0 := ws0_t (i := 904) (by decide +kernel) (by decide +kernel)
theorem q906 : (Jvm.Cond.instanceMethod ({ cls := "TextPipelineModel", name := "turnRound", desc := "(II)V" } : Jvm.MethodName)) ∈ WS0 := ws0_t (i := 906) (by decide +kernel) (by decide +kernel)
theorem q907 : (Jvm.Cond.code ({ cls := "TextPipelineModel", name := "turnRound", desc := "(II)V" } : Jvm.MethodName) prog_10_method_48_code (6 : Nat) (Option.none : Option Jvm.ClassFile.FieldType)) ∈ WS0 := ws0_t (i := 907) (by decide +kernel) (by decide +kernel)
theorem q908 : (Jvm.Cond.methodLink "TextPipelineLaw" (114 : Nat) ({ cls := "TextPipelineModel", name := "key", desc := "()I" } : Jvm.MethodName)) ∈ WS0 := ws0_t (i := 908) (by decide +kernel) (by decide +kernel)
theorem q909 : (Jvm.Cond.instanceMethod ({ cls := "TextPipelineModel", name := "key", desc := "()I" } : Jvm.MethodName)) ∈ WS0 := ws0_t (i := 909) (by decide +kernel) (by decide +kernel)
theorem q910 : (Jvm.Cond.selects "TextPipelineModel" ({ cls := "TextPipelineModel", name := "key", desc := "()I" } : Jvm.MethodName) ({ cls := "TextPipelineModel", name := "key", desc := "()I" } : Jvm.MethodName)) ∈ WS0 := ws0_t (i := 910) (by decide +kernel) (by decide +kernel)
theorem q911 : (Jvm.Cond.code ({ cls := "TextPipelineModel", name := "key", desc := "()I" } : Jvm.MethodName) prog_10_method_51_code (1 : Nat) (Option.some Jvm.ClassFile.FieldType.int)) ∈ WS0 := ws0_t (i := 911) (by decide +kernel) (by decide +kernel)
theorem q912 : (Jvm.Cond.methodLink "TextPipelineModel" (190 : Nat) ({ cls := "TextPipelineModel", name := "findKey", desc := "()V" } : Jvm.MethodName)) ∈ WS0 := ws0_t (i := 912) (by decide +kernel) (by decide +kernel)
theorem q914 : (Jvm.Cond.instanceMethod ({ cls := "TextPipelineModel", name := "findKey", desc := "()V" } : Jvm.MethodName)) ∈ WS0 := ws0_t (i := 914) (by decide +kernel) (by decide +kernel)
theorem q915 : (Jvm.Cond.code ({ cls := "TextPipelineModel", name := "findKey", desc := "()V" } : Jvm.MethodName) prog_10_method_50_code (4 : Nat) (Option.none : Option Jvm.ClassFile.FieldType)) ∈ WS0 := ws0_t (i := 915) (by decide +kernel) (by decide +kernel)
theorem q916 : (Jvm.Cond.methodLink "TextPipelineModel" (187 : Nat) ({ cls := "TextPipelineModel", name := "weight", desc := "(II)I" } : Jvm.MethodName)) ∈ WS0 := ws0_t (i := 916) (by decide +kernel) (by decide +kernel)
theorem q918 : (Jvm.Cond.instanceMethod ({ cls := "TextPipelineModel", name := "weight", desc := "(II)I" } : Jvm.MethodName)) ∈ WS0 := ws0_t (i := 918) (by decide +kernel) (by decide +kernel)
theorem q919 : (Jvm.Cond.code ({ cls := "TextPipelineModel", name := "weight", desc := "(II)I" } : Jvm.MethodName) prog_10_method_8_code (3 : Nat) (Option.some Jvm.ClassFile.FieldType.int)) ∈ WS0 := ws0_t (i := 919) (by decide +kernel) (by decide +kernel)
theorem q920 : (Jvm.Cond.methodLink "TextPipelineLaw" (117 : Nat) ({ cls := "TextPipelineModel", name := "keyAt", desc := "(I)I" } : Jvm.MethodName)) ∈ WS0 := ws0_t (i := 920) (by decide +kernel) (by decide +kernel)
theorem q921 : (Jvm.Cond.instanceMethod ({ cls := "TextPipelineModel", name := "keyAt", desc := "(I)I" } : Jvm.MethodName)) ∈ WS0 := ws0_t (i := 921) (by decide +kernel) (by decide +kernel)
theorem q922 : (Jvm.Cond.selects "TextPipelineModel" ({ cls := "TextPipelineModel", name := "keyAt", desc := "(I)I" } : Jvm.MethodName) ({ cls := "TextPipelineModel", name := "keyAt", desc := "(I)I" } : Jvm.MethodName)) ∈ WS0 := ws0_t (i := 922) (by decide +kernel) (by decide +kernel)
theorem q923 : (Jvm.Cond.code ({ cls := "TextPipelineModel", name := "keyAt", desc := "(I)I" } : Jvm.MethodName) prog_10_method_52_code (2 : Nat) (Option.some Jvm.ClassFile.FieldType.int)) ∈ WS0 := ws0_t (i := 923) (by decide +kernel) (by decide +kernel)
theorem q924 : (Jvm.Cond.methodLink "TextPipelineLaw" (121 : Nat) ({ cls := "TextPipelineModel", name := "keep", desc := "(I)V" } : Jvm.MethodName)) ∈ WS0 := ws0_t (i := 924) (by decide +kernel) (by decide +kernel)
theorem q925 : (Jvm.Cond.instanceMethod ({ cls := "TextPipelineModel", name := "keep", desc := "(I)V" } : Jvm.MethodName)) ∈ WS0 := ws0_t (i := 925) (by decide +kernel) (by decide +kernel)
theorem q926 : (Jvm.Cond.selects "TextPipelineModel" ({ cls := "TextPipelineModel", name := "keep", desc := "(I)V" } : Jvm.MethodName) ({ cls := "TextPipelineModel", name := "keep", desc := "(I)V" } : Jvm.MethodName)) ∈ WS0 := ws0_t (i := 926) (by decide +kernel) (by decide +kernel)
theorem q927 : (Jvm.Cond.code ({ cls := "TextPipelineModel", name := "keep", desc := "(I)V" } : Jvm.MethodName) prog_10_method_54_code (3 : Nat) (Option.none : Option Jvm.ClassFile.FieldType)) ∈ WS0 := ws0_t (i := 927) (by decide +kernel) (by decide +kernel)
theorem q928 : (Jvm.Cond.methodLink "TextPipelineModel" (193 : Nat) ({ cls := "TextPipelineModel", name := "noSlot", desc := "(I)Z" } : Jvm.MethodName)) ∈ WS0 := ws0_t (i := 928) (by decide +kernel) (by decide +kernel)
theorem q930 : (Jvm.Cond.instanceMethod ({ cls := "TextPipelineModel", name := "noSlot", desc := "(I)Z" } : Jvm.MethodName)) ∈ WS0 := ws0_t (i := 930) (by decide +kernel) (by decide +kernel)
theorem q931 : (Jvm.Cond.code ({ cls := "TextPipelineModel", name := "noSlot", desc := "(I)Z" } : Jvm.MethodName) prog_10_method_53_code (2 : Nat) (Option.some Jvm.ClassFile.FieldType.boolean)) ∈ WS0 := ws0_t (i := 931) (by decide +kernel) (by decide +kernel)
theorem q932 : (Jvm.Cond.methodLink "TextPipelineLaw" (124 : Nat) ({ cls := "TextPipelineModel", name := "compare", desc := "(I)I" } : Jvm.MethodName)) ∈ WS0 := ws0_t (i := 932) (by decide +kernel) (by decide +kernel)
theorem q933 : (Jvm.Cond.instanceMethod ({ cls := "TextPipelineModel", name := "compare", desc := "(I)I" } : Jvm.MethodName)) ∈ WS0 := ws0_t (i := 933) (by decide +kernel) (by decide +kernel)
theorem q934 : (Jvm.Cond.selects "TextPipelineModel" ({ cls := "TextPipelineModel", name := "compare", desc := "(I)I" } : Jvm.MethodName) ({ cls := "TextPipelineModel", name := "compare", desc := "(I)I" } : Jvm.MethodName)) ∈ WS0 := ws0_t (i := 934) (by decide +kernel) (by decide +kernel)
theorem q935 : (Jvm.Cond.code ({ cls := "TextPipelineModel", name := "compare", desc := "(I)I" } : Jvm.MethodName) prog_10_method_55_code (3 : Nat) (Option.some Jvm.ClassFile.FieldType.int)) ∈ WS0 := ws0_t (i := 935) (by decide +kernel) (by decide +kernel)
theorem q936 : (Jvm.Cond.methodLink "TextPipelineModel" (196 : Nat) ({ cls := "TextPipelineModel", name := "partKept", desc := "(I)V" } : Jvm.MethodName)) ∈ WS0 := ws0_t (i := 936) (by decide +kernel) (by decide +kernel)
theorem q938 : (Jvm.Cond.instanceMethod ({ cls := "TextPipelineModel", name := "partKept", desc := "(I)V" } : Jvm.MethodName)) ∈ WS0 := ws0_t (i := 938) (by decide +kernel) (by decide +kernel)
theorem q939 : (Jvm.Cond.code ({ cls := "TextPipelineModel", name := "partKept", desc := "(I)V" } : Jvm.MethodName) prog_10_method_24_code (3 : Nat) (Option.none : Option Jvm.ClassFile.FieldType)) ∈ WS0 := ws0_t (i := 939) (by decide +kernel) (by decide +kernel)
theorem q940 : (Jvm.Cond.methodLink "TextPipelineLaw" (127 : Nat) ({ cls := "TextPipelineModel", name := "same", desc := "(I)Z" } : Jvm.MethodName)) ∈ WS0 := ws0_t (i := 940) (by decide +kernel) (by decide +kernel)
theorem q941 : (Jvm.Cond.instanceMethod ({ cls := "TextPipelineModel", name := "same", desc := "(I)Z" } : Jvm.MethodName)) ∈ WS0 := ws0_t (i := 941) (by decide +kernel) (by decide +kernel)
theorem q942 : (Jvm.Cond.selects "TextPipelineModel" ({ cls := "TextPipelineModel", name := "same", desc := "(I)Z" } : Jvm.MethodName) ({ cls := "TextPipelineModel", name := "same", desc := "(I)Z" } : Jvm.MethodName)) ∈ WS0 := ws0_t (i := 942) (by decide +kernel) (by decide +kernel)
theorem q943 : (Jvm.Cond.code ({ cls := "TextPipelineModel", name := "same", desc := "(I)Z" } : Jvm.MethodName) prog_10_method_56_code (4 : Nat) (Option.some Jvm.ClassFile.FieldType.boolean)) ∈ WS0 := ws0_t (i := 943) (by decide +kernel) (by decide +kernel)
theorem q944 : (Jvm.Cond.arrayClass Jvm.ClassFile.FieldType.long) ∈ WS0 := ws0_t (i := 944) (by decide +kernel) (by decide +kernel)
abbrev RP : String := "TextPipeline"
def TP : u_T := fun k => match k with
  | 0 => ("TextPipeline", "table", "LTextPipeline$Table;", true)
  | 1 => ("TextPipeline", "text", "LTextPipeline$Row;", true)
  | 2 => ("TextPipeline", "kept", "[LTextPipeline$Row;", true)
  | 3 => ("TextPipeline", "form", "LTextPipeline$Row;", true)
  | 4 => ("TextPipeline", "keptForm", "LTextPipeline$Row;", true)
  | 5 => ("TextPipeline", "numbers", "LTextPipeline$Row;", true)
  | 6 => ("TextPipeline", "keptNumbers", "LTextPipeline$Row;", true)
  | 7 => ("TextPipeline", "lines", "LTextPipeline$Lines;", true)
  | _ => ("TextPipeline", "sides", "LTextPipeline$Sides;", true)
def tyP : Nat → FieldType := fun k => match k with
  | 0 => .object "TextPipeline$Table"
  | 1 => .object "TextPipeline$Row"
  | 2 => .array (.object "TextPipeline$Row")
  | 3 => .object "TextPipeline$Row"
  | 4 => .object "TextPipeline$Row"
  | 5 => .object "TextPipeline$Row"
  | 6 => .object "TextPipeline$Row"
  | 7 => .object "TextPipeline$Lines"
  | _ => .object "TextPipeline$Sides"
theorem nmP : ∀ a, a < 9 → ∀ b, b < 9 → a ≠ b → (TP a).2.1 ≠ (TP b).2.1 := by decide +kernel
theorem tyP_ok : ∀ k, k < 9 → parseFieldDescriptor (TP k).2.2.1 = some (tyP k) := by decide +kernel
theorem inP : ∀ w ∈ u_ws RP TP 9, w ∈ WS0 := ((List.forall_mem_cons.mpr ⟨q137, (List.forall_mem_cons.mpr ⟨q139, (List.forall_mem_cons.mpr ⟨q141, (List.forall_mem_cons.mpr ⟨q143, (List.forall_mem_cons.mpr ⟨q145, (List.forall_mem_cons.mpr ⟨q147, (List.forall_mem_cons.mpr ⟨q149, (List.forall_mem_cons.mpr ⟨q151, (List.forall_mem_cons.mpr ⟨q153, (List.forall_mem_nil _)⟩)⟩)⟩)⟩)⟩)⟩)⟩)⟩)⟩) : ∀ w ∈ ([(Jvm.Cond.laysFinal "TextPipeline" "TextPipeline" "table" "LTextPipeline$Table;"), (Jvm.Cond.laysFinal "TextPipeline" "TextPipeline" "text" "LTextPipeline$Row;"), (Jvm.Cond.laysFinal "TextPipeline" "TextPipeline" "kept" "[LTextPipeline$Row;"), (Jvm.Cond.laysFinal "TextPipeline" "TextPipeline" "form" "LTextPipeline$Row;"), (Jvm.Cond.laysFinal "TextPipeline" "TextPipeline" "keptForm" "LTextPipeline$Row;"), (Jvm.Cond.laysFinal "TextPipeline" "TextPipeline" "numbers" "LTextPipeline$Row;"), (Jvm.Cond.laysFinal "TextPipeline" "TextPipeline" "keptNumbers" "LTextPipeline$Row;"), (Jvm.Cond.laysFinal "TextPipeline" "TextPipeline" "lines" "LTextPipeline$Lines;"), (Jvm.Cond.laysFinal "TextPipeline" "TextPipeline" "sides" "LTextPipeline$Sides;")] : List Cond), w ∈ WS0)
abbrev RT : String := "TextPipeline$Table"
def TT : u_T := fun k => match k with
  | 0 => ("TextPipeline$Table", "properties", "[[I", true)
  | 1 => ("TextPipeline$Table", "firstPart", "[I", true)
  | 2 => ("TextPipeline$Table", "secondPart", "[I", true)
  | 3 => ("TextPipeline$Table", "excluded", "[Z", true)
  | 4 => ("TextPipeline$Table", "parts", "[I", true)
  | 5 => ("TextPipeline$Table", "partCount", "[I", true)
  | _ => ("TextPipeline$Table", "triedCount", "[I", true)
def tyT : Nat → FieldType := fun k => match k with
  | 0 => .array (.array .int)
  | 1 => .array .int
  | 2 => .array .int
  | 3 => .array .boolean
  | 4 => .array .int
  | 5 => .array .int
  | _ => .array .int
theorem nmT : ∀ a, a < 7 → ∀ b, b < 7 → a ≠ b → (TT a).2.1 ≠ (TT b).2.1 := by decide +kernel
theorem tyT_ok : ∀ k, k < 7 → parseFieldDescriptor (TT k).2.2.1 = some (tyT k) := by decide +kernel
theorem inT : ∀ w ∈ u_ws RT TT 7, w ∈ WS0 := ((List.forall_mem_cons.mpr ⟨q71, (List.forall_mem_cons.mpr ⟨q73, (List.forall_mem_cons.mpr ⟨q75, (List.forall_mem_cons.mpr ⟨q77, (List.forall_mem_cons.mpr ⟨q79, (List.forall_mem_cons.mpr ⟨q81, (List.forall_mem_cons.mpr ⟨q83, (List.forall_mem_nil _)⟩)⟩)⟩)⟩)⟩)⟩)⟩) : ∀ w ∈ ([(Jvm.Cond.laysFinal "TextPipeline$Table" "TextPipeline$Table" "properties" "[[I"), (Jvm.Cond.laysFinal "TextPipeline$Table" "TextPipeline$Table" "firstPart" "[I"), (Jvm.Cond.laysFinal "TextPipeline$Table" "TextPipeline$Table" "secondPart" "[I"), (Jvm.Cond.laysFinal "TextPipeline$Table" "TextPipeline$Table" "excluded" "[Z"), (Jvm.Cond.laysFinal "TextPipeline$Table" "TextPipeline$Table" "parts" "[I"), (Jvm.Cond.laysFinal "TextPipeline$Table" "TextPipeline$Table" "partCount" "[I"), (Jvm.Cond.laysFinal "TextPipeline$Table" "TextPipeline$Table" "triedCount" "[I")] : List Cond), w ∈ WS0)
abbrev RR : String := "TextPipeline$Row"
def TR : u_T := fun k => match k with
  | 0 => ("TextPipeline$Row", "items", "[I", true)
  | _ => ("TextPipeline$Row", "size", "I", false)
def tyR : Nat → FieldType := fun k => match k with
  | 0 => .array .int
  | _ => .int
theorem nmR : ∀ a, a < 2 → ∀ b, b < 2 → a ≠ b → (TR a).2.1 ≠ (TR b).2.1 := by decide +kernel
theorem tyR_ok : ∀ k, k < 2 → parseFieldDescriptor (TR k).2.2.1 = some (tyR k) := by decide +kernel
theorem inR : ∀ w ∈ u_ws RR TR 2, w ∈ WS0 := ((List.forall_mem_cons.mpr ⟨q96, (List.forall_mem_cons.mpr ⟨q98, (List.forall_mem_nil _)⟩)⟩) : ∀ w ∈ ([(Jvm.Cond.laysFinal "TextPipeline$Row" "TextPipeline$Row" "items" "[I"), (Jvm.Cond.lays "TextPipeline$Row" "TextPipeline$Row" "size" "I")] : List Cond), w ∈ WS0)
abbrev RL : String := "TextPipeline$Lines"
def TL : u_T := fun k => match k with
  | _ => ("TextPipeline$Lines", "kinds", "[I", true)
def tyL : Nat → FieldType := fun k => match k with
  | _ => .array .int
theorem nmL : ∀ a, a < 1 → ∀ b, b < 1 → a ≠ b → (TL a).2.1 ≠ (TL b).2.1 := by decide +kernel
theorem tyL_ok : ∀ k, k < 1 → parseFieldDescriptor (TL k).2.2.1 = some (tyL k) := by decide +kernel
theorem inL : ∀ w ∈ u_ws RL TL 1, w ∈ WS0 := ((List.forall_mem_cons.mpr ⟨q109, (List.forall_mem_nil _)⟩) : ∀ w ∈ ([(Jvm.Cond.laysFinal "TextPipeline$Lines" "TextPipeline$Lines" "kinds" "[I")] : List Cond), w ∈ WS0)
abbrev RS : String := "TextPipeline$Sides"
def TS : u_T := fun k => match k with
  | 0 => ("TextPipeline$Sides", "kinds", "[I", true)
  | 1 => ("TextPipeline$Sides", "levels", "[I", true)
  | _ => ("TextPipeline$Sides", "places", "[I", true)
def tyS : Nat → FieldType := fun k => match k with
  | 0 => .array .int
  | 1 => .array .int
  | _ => .array .int
theorem nmS : ∀ a, a < 3 → ∀ b, b < 3 → a ≠ b → (TS a).2.1 ≠ (TS b).2.1 := by decide +kernel
theorem tyS_ok : ∀ k, k < 3 → parseFieldDescriptor (TS k).2.2.1 = some (tyS k) := by decide +kernel
theorem inS : ∀ w ∈ u_ws RS TS 3, w ∈ WS0 := ((List.forall_mem_cons.mpr ⟨q121, (List.forall_mem_cons.mpr ⟨q123, (List.forall_mem_cons.mpr ⟨q125, (List.forall_mem_nil _)⟩)⟩)⟩) : ∀ w ∈ ([(Jvm.Cond.laysFinal "TextPipeline$Sides" "TextPipeline$Sides" "kinds" "[I"), (Jvm.Cond.laysFinal "TextPipeline$Sides" "TextPipeline$Sides" "levels" "[I"), (Jvm.Cond.laysFinal "TextPipeline$Sides" "TextPipeline$Sides" "places" "[I")] : List Cond), w ∈ WS0)
abbrev RC : String := "TextPipeline$Clusters"
abbrev RF : String := "TextPipeline$Forms"
abbrev RK : String := "TextPipeline$Keys"
abbrev RM : String := "TextPipelineModel"
def TM : u_T := fun k => match k with
  | 0 => ("TextPipelineModel", "thrown", "I", false)
  | 1 => ("TextPipelineModel", "table", "[I", false)
  | 2 => ("TextPipelineModel", "first", "[I", false)
  | 3 => ("TextPipelineModel", "second", "[I", false)
  | 4 => ("TextPipelineModel", "left", "[Z", false)
  | 5 => ("TextPipelineModel", "counts", "[I", false)
  | 6 => ("TextPipelineModel", "length", "I", false)
  | 7 => ("TextPipelineModel", "text", "[I", false)
  | 8 => ("TextPipelineModel", "keptLength", "[I", false)
  | 9 => ("TextPipelineModel", "kept", "[I", false)
  | 10 => ("TextPipelineModel", "formLength", "I", false)
  | 11 => ("TextPipelineModel", "form", "[I", false)
  | 12 => ("TextPipelineModel", "otherLength", "I", false)
  | 13 => ("TextPipelineModel", "other", "[I", false)
  | 14 => ("TextPipelineModel", "pile", "[I", false)
  | 15 => ("TextPipelineModel", "keyLength", "I", false)
  | 16 => ("TextPipelineModel", "numbers", "[I", false)
  | 17 => ("TextPipelineModel", "otherKeyLength", "I", false)
  | 18 => ("TextPipelineModel", "otherNumbers", "[I", false)
  | 19 => ("TextPipelineModel", "lineClass", "[I", false)
  | 20 => ("TextPipelineModel", "follows", "[Z", false)
  | 21 => ("TextPipelineModel", "side", "[I", false)
  | 22 => ("TextPipelineModel", "levels", "[I", false)
  | _ => ("TextPipelineModel", "orders", "[I", false)
def tyM : Nat → FieldType := fun k => match k with
  | 0 => .int
  | 1 => .array .int
  | 2 => .array .int
  | 3 => .array .int
  | 4 => .array .boolean
  | 5 => .array .int
  | 6 => .int
  | 7 => .array .int
  | 8 => .array .int
  | 9 => .array .int
  | 10 => .int
  | 11 => .array .int
  | 12 => .int
  | 13 => .array .int
  | 14 => .array .int
  | 15 => .int
  | 16 => .array .int
  | 17 => .int
  | 18 => .array .int
  | 19 => .array .int
  | 20 => .array .boolean
  | 21 => .array .int
  | 22 => .array .int
  | _ => .array .int
theorem nmM : ∀ a, a < 24 → ∀ b, b < 24 → a ≠ b → (TM a).2.1 ≠ (TM b).2.1 := by decide +kernel
theorem tyM_ok : ∀ k, k < 24 → parseFieldDescriptor (TM k).2.2.1 = some (tyM k) := by decide +kernel
theorem inM : ∀ w ∈ u_ws RM TM 24, w ∈ WS0 := ((List.forall_mem_cons.mpr ⟨q675, (List.forall_mem_cons.mpr ⟨q677, (List.forall_mem_cons.mpr ⟨q679, (List.forall_mem_cons.mpr ⟨q681, (List.forall_mem_cons.mpr ⟨q683, (List.forall_mem_cons.mpr ⟨q685, (List.forall_mem_cons.mpr ⟨q687, (List.forall_mem_cons.mpr ⟨q689, (List.forall_mem_cons.mpr ⟨q691, (List.forall_mem_cons.mpr ⟨q693, (List.forall_mem_cons.mpr ⟨q695, (List.forall_mem_cons.mpr ⟨q697, (List.forall_mem_cons.mpr ⟨q699, (List.forall_mem_cons.mpr ⟨q701, (List.forall_mem_cons.mpr ⟨q703, (List.forall_mem_cons.mpr ⟨q705, (List.forall_mem_cons.mpr ⟨q707, (List.forall_mem_cons.mpr ⟨q709, (List.forall_mem_cons.mpr ⟨q711, (List.forall_mem_cons.mpr ⟨q713, (List.forall_mem_cons.mpr ⟨q715, (List.forall_mem_cons.mpr ⟨q717, (List.forall_mem_cons.mpr ⟨q719, (List.forall_mem_cons.mpr ⟨q721, (List.forall_mem_nil _)⟩)⟩)⟩)⟩)⟩)⟩)⟩)⟩)⟩)⟩)⟩)⟩)⟩)⟩)⟩)⟩)⟩)⟩)⟩)⟩)⟩)⟩)⟩)⟩) : ∀ w ∈ ([(Jvm.Cond.lays "TextPipelineModel" "TextPipelineModel" "thrown" "I"), (Jvm.Cond.lays "TextPipelineModel" "TextPipelineModel" "table" "[I"), (Jvm.Cond.lays "TextPipelineModel" "TextPipelineModel" "first" "[I"), (Jvm.Cond.lays "TextPipelineModel" "TextPipelineModel" "second" "[I"), (Jvm.Cond.lays "TextPipelineModel" "TextPipelineModel" "left" "[Z"), (Jvm.Cond.lays "TextPipelineModel" "TextPipelineModel" "counts" "[I"), (Jvm.Cond.lays "TextPipelineModel" "TextPipelineModel" "length" "I"), (Jvm.Cond.lays "TextPipelineModel" "TextPipelineModel" "text" "[I"), (Jvm.Cond.lays "TextPipelineModel" "TextPipelineModel" "keptLength" "[I"), (Jvm.Cond.lays "TextPipelineModel" "TextPipelineModel" "kept" "[I"), (Jvm.Cond.lays "TextPipelineModel" "TextPipelineModel" "formLength" "I"), (Jvm.Cond.lays "TextPipelineModel" "TextPipelineModel" "form" "[I"), (Jvm.Cond.lays "TextPipelineModel" "TextPipelineModel" "otherLength" "I"), (Jvm.Cond.lays "TextPipelineModel" "TextPipelineModel" "other" "[I"), (Jvm.Cond.lays "TextPipelineModel" "TextPipelineModel" "pile" "[I"), (Jvm.Cond.lays "TextPipelineModel" "TextPipelineModel" "keyLength" "I"), (Jvm.Cond.lays "TextPipelineModel" "TextPipelineModel" "numbers" "[I"), (Jvm.Cond.lays "TextPipelineModel" "TextPipelineModel" "otherKeyLength" "I"), (Jvm.Cond.lays "TextPipelineModel" "TextPipelineModel" "otherNumbers" "[I"), (Jvm.Cond.lays "TextPipelineModel" "TextPipelineModel" "lineClass" "[I"), (Jvm.Cond.lays "TextPipelineModel" "TextPipelineModel" "follows" "[Z"), (Jvm.Cond.lays "TextPipelineModel" "TextPipelineModel" "side" "[I"), (Jvm.Cond.lays "TextPipelineModel" "TextPipelineModel" "levels" "[I"), (Jvm.Cond.lays "TextPipelineModel" "TextPipelineModel" "orders" "[I")] : List Cond), w ∈ WS0)
abbrev RG : String := "TextPipelineLaw"
abbrev vwCl : List vw_C := [(RP, TP, 9), (RT, TT, 7), (RR, TR, 2), (RL, TL, 1), (RS, TS, 3), (RM, TM, 24)]
def jT (cI cZ cG cR : ClassId) : List (ClassId × FieldType) := [(cI, .int), (cZ, .boolean), (cG, .array .int), (cR, .object "TextPipeline$Row")]
/-- what a caller needs of a method that it calls -/
def jCalV (y : MethodName) (C : String) (bytes : ByteArray) (maxL : Nat) (ret : Option FieldType) (n : Nat) : Prop := Cond.instanceMethod y ∈ WS0 ∧ Cond.selects C y y ∈ WS0 ∧ Cond.initialized C ∈ WS0 ∧ Cond.code y bytes maxL ret ∈ WS0 ∧ (y.cls = C ∧ y.cls ≠ "java/lang/invoke/MethodHandle" ∧ y.cls ≠ "java/lang/invoke/VarHandle" ∧ (parseMethodDescriptor y.desc).map (fun d => d.parameters.length) = some n)
def jCalS (y : MethodName) (bytes : ByteArray) (maxL : Nat) (ret : Option FieldType) (n : Nat) : Prop := Cond.static y ∈ WS0 ∧ Cond.initialized y.cls ∈ WS0 ∧ Cond.code y bytes maxL ret ∈ WS0 ∧ (y.cls ≠ "java/lang/invoke/MethodHandle" ∧ y.cls ≠ "java/lang/invoke/VarHandle" ∧ (parseMethodDescriptor y.desc).map (fun d => d.parameters.length) = some n)
abbrev yP_init : MethodName := ⟨"TextPipeline", "<init>", "()V"⟩
abbrev cP_init : ByteArray := prog_1_method_1_code
abbrev wsP_init : List Cond := .code yP_init cP_init 2 none :: WS0
abbrev yP_set : MethodName := ⟨"TextPipeline", "set", "(III)V"⟩
abbrev cP_set : ByteArray := prog_1_method_2_code
abbrev wsP_set : List Cond := .code yP_set cP_set 4 none :: WS0
theorem kP_set : jCalV yP_set "TextPipeline" cP_set 4 none 3 := ⟨q271, q272, q1, q273, by decide +kernel⟩
abbrev yP_part : MethodName := ⟨"TextPipeline", "part", "(IIIZ)V"⟩
abbrev cP_part : ByteArray := prog_1_method_3_code
abbrev wsP_part : List Cond := .code yP_part cP_part 5 none :: WS0
theorem kP_part : jCalV yP_part "TextPipeline" cP_part 5 none 4 := ⟨q357, q358, q1, q359, by decide +kernel⟩
abbrev yP_type : MethodName := ⟨"TextPipeline", "type", "(I)I"⟩
abbrev cP_type : ByteArray := prog_1_method_4_code
abbrev wsP_type : List Cond := .code yP_type cP_type 2 (some .int) :: WS0
theorem kP_type : jCalV yP_type "TextPipeline" cP_type 2 (some .int) 1 := ⟨q393, q394, q1, q395, by decide +kernel⟩
abbrev yP_wipe : MethodName := ⟨"TextPipeline", "wipe", "()V"⟩
abbrev cP_wipe : ByteArray := prog_1_method_5_code
abbrev wsP_wipe : List Cond := .code yP_wipe cP_wipe 1 none :: WS0
theorem kP_wipe : jCalV yP_wipe "TextPipeline" cP_wipe 1 none 0 := ⟨q157, q158, q1, q159, by decide +kernel⟩
abbrev yP_bring : MethodName := ⟨"TextPipeline", "bring", "(Z)I"⟩
abbrev cP_bring : ByteArray := prog_1_method_6_code
abbrev wsP_bring : List Cond := .code yP_bring cP_bring 2 (some .int) :: WS0
theorem kP_bring : jCalV yP_bring "TextPipeline" cP_bring 2 (some .int) 1 := ⟨q403, q404, q1, q405, by decide +kernel⟩
abbrev yP_at : MethodName := ⟨"TextPipeline", "at", "(I)I"⟩
abbrev cP_at : ByteArray := prog_1_method_7_code
abbrev wsP_at : List Cond := .code yP_at cP_at 2 (some .int) :: WS0
theorem kP_at : jCalV yP_at "TextPipeline" cP_at 2 (some .int) 1 := ⟨q430, q431, q1, q432, by decide +kernel⟩
abbrev yP_cluster : MethodName := ⟨"TextPipeline", "cluster", "(I)Z"⟩
abbrev cP_cluster : ByteArray := prog_1_method_8_code
abbrev wsP_cluster : List Cond := .code yP_cluster cP_cluster 2 (some .boolean) :: WS0
theorem kP_cluster : jCalV yP_cluster "TextPipeline" cP_cluster 2 (some .boolean) 1 := ⟨q458, q459, q1, q460, by decide +kernel⟩
abbrev yP_clusters : MethodName := ⟨"TextPipeline", "clusters", "()I"⟩
abbrev cP_clusters : ByteArray := prog_1_method_9_code
abbrev wsP_clusters : List Cond := .code yP_clusters cP_clusters 3 (some .int) :: WS0
theorem kP_clusters : jCalV yP_clusters "TextPipeline" cP_clusters 3 (some .int) 0 := ⟨q171, q172, q1, q173, by decide +kernel⟩
abbrev yP_line : MethodName := ⟨"TextPipeline", "line", "(I)I"⟩
abbrev cP_line : ByteArray := prog_1_method_10_code
abbrev wsP_line : List Cond := .code yP_line cP_line 2 (some .int) :: WS0
theorem kP_line : jCalV yP_line "TextPipeline" cP_line 2 (some .int) 1 := ⟨q470, q471, q1, q472, by decide +kernel⟩
abbrev yP_level : MethodName := ⟨"TextPipeline", "level", "(II)I"⟩
abbrev cP_level : ByteArray := prog_1_method_11_code
abbrev wsP_level : List Cond := .code yP_level cP_level 3 (some .int) :: WS0
theorem kP_level : jCalV yP_level "TextPipeline" cP_level 3 (some .int) 2 := ⟨q510, q511, q1, q512, by decide +kernel⟩
abbrev yP_order : MethodName := ⟨"TextPipeline", "order", "(II)I"⟩
abbrev cP_order : ByteArray := prog_1_method_12_code
abbrev wsP_order : List Cond := .code yP_order cP_order 3 (some .int) :: WS0
theorem kP_order : jCalV yP_order "TextPipeline" cP_order 3 (some .int) 2 := ⟨q586, q587, q1, q588, by decide +kernel⟩
abbrev yP_key : MethodName := ⟨"TextPipeline", "key", "()I"⟩
abbrev cP_key : ByteArray := prog_1_method_13_code
abbrev wsP_key : List Cond := .code yP_key cP_key 1 (some .int) :: WS0
theorem kP_key : jCalV yP_key "TextPipeline" cP_key 1 (some .int) 0 := ⟨q222, q223, q1, q224, by decide +kernel⟩
abbrev yP_keyAt : MethodName := ⟨"TextPipeline", "keyAt", "(I)I"⟩
abbrev cP_keyAt : ByteArray := prog_1_method_14_code
abbrev wsP_keyAt : List Cond := .code yP_keyAt cP_keyAt 2 (some .int) :: WS0
theorem kP_keyAt : jCalV yP_keyAt "TextPipeline" cP_keyAt 2 (some .int) 1 := ⟨q609, q610, q1, q611, by decide +kernel⟩
abbrev yP_keep : MethodName := ⟨"TextPipeline", "keep", "(I)V"⟩
abbrev cP_keep : ByteArray := prog_1_method_15_code
abbrev wsP_keep : List Cond := .code yP_keep cP_keep 2 none :: WS0
theorem kP_keep : jCalV yP_keep "TextPipeline" cP_keep 2 none 1 := ⟨q617, q618, q1, q619, by decide +kernel⟩
abbrev yP_compare : MethodName := ⟨"TextPipeline", "compare", "(I)I"⟩
abbrev cP_compare : ByteArray := prog_1_method_16_code
abbrev wsP_compare : List Cond := .code yP_compare cP_compare 2 (some .int) :: WS0
theorem kP_compare : jCalV yP_compare "TextPipeline" cP_compare 2 (some .int) 1 := ⟨q628, q629, q1, q630, by decide +kernel⟩
abbrev yP_same : MethodName := ⟨"TextPipeline", "same", "(I)Z"⟩
abbrev cP_same : ByteArray := prog_1_method_17_code
abbrev wsP_same : List Cond := .code yP_same cP_same 2 (some .boolean) :: WS0
theorem kP_same : jCalV yP_same "TextPipeline" cP_same 2 (some .boolean) 1 := ⟨q642, q643, q1, q644, by decide +kernel⟩
abbrev yP_fillOwnKey : MethodName := ⟨"TextPipeline", "fillOwnKey", "()V"⟩
abbrev cP_fillOwnKey : ByteArray := prog_1_method_18_code
abbrev wsP_fillOwnKey : List Cond := .code yP_fillOwnKey cP_fillOwnKey 1 none :: WS0
theorem kP_fillOwnKey : jCalV yP_fillOwnKey "TextPipeline" cP_fillOwnKey 1 none 0 := ⟨q227, (ws0_s (i := 6) (q := (⟨"TextPipeline", "fillOwnKey", "()V"⟩, 9)) (by decide +kernel) (by decide +kernel)), q1, q228, by decide +kernel⟩
abbrev yP_requireCharacter : MethodName := ⟨"TextPipeline", "requireCharacter", "(I)V"⟩
abbrev cP_requireCharacter : ByteArray := prog_1_method_19_code
abbrev wsP_requireCharacter : List Cond := .code yP_requireCharacter cP_requireCharacter 2 none :: WS0
theorem kP_requireCharacter : jCalV yP_requireCharacter "TextPipeline" cP_requireCharacter 2 none 1 := ⟨q435, (ws0_s (i := 8) (q := (⟨"TextPipeline", "requireCharacter", "(I)V"⟩, 9)) (by decide +kernel) (by decide +kernel)), q1, q436, by decide +kernel⟩
abbrev yP_requirePlace : MethodName := ⟨"TextPipeline", "requirePlace", "(I)V"⟩
abbrev cP_requirePlace : ByteArray := prog_1_method_20_code
abbrev wsP_requirePlace : List Cond := .code yP_requirePlace cP_requirePlace 2 none :: WS0
theorem kP_requirePlace : jCalV yP_requirePlace "TextPipeline" cP_requirePlace 2 none 1 := ⟨q463, (ws0_s (i := 9) (q := (⟨"TextPipeline", "requirePlace", "(I)V"⟩, 9)) (by decide +kernel) (by decide +kernel)), q1, q464, by decide +kernel⟩
abbrev yP_requireSlot : MethodName := ⟨"TextPipeline", "requireSlot", "(I)V"⟩
abbrev cP_requireSlot : ByteArray := prog_1_method_21_code
abbrev wsP_requireSlot : List Cond := .code yP_requireSlot cP_requireSlot 1 none :: WS0
theorem kP_requireSlot : jCalS yP_requireSlot cP_requireSlot 1 none 1 := ⟨q621, q1, q622, by decide +kernel⟩
abbrev yT_init : MethodName := ⟨"TextPipeline$Table", "<init>", "()V"⟩
abbrev cT_init : ByteArray := prog_8_method_1_code
abbrev wsT_init : List Cond := .code yT_init cT_init 1 none :: WS0
abbrev yT_isSettable : MethodName := ⟨"TextPipeline$Table", "isSettable", "(I)Z"⟩
abbrev cT_isSettable : ByteArray := prog_8_method_2_code
abbrev wsT_isSettable : List Cond := .code yT_isSettable cT_isSettable 1 (some .boolean) :: WS0
theorem kT_isSettable : jCalS yT_isSettable cT_isSettable 1 (some .boolean) 1 := ⟨q275, q2, q276, by decide +kernel⟩
abbrev yT_isInRange : MethodName := ⟨"TextPipeline$Table", "isInRange", "(II)Z"⟩
abbrev cT_isInRange : ByteArray := prog_8_method_3_code
abbrev wsT_isInRange : List Cond := .code yT_isInRange cT_isInRange 2 (some .boolean) :: WS0
theorem kT_isInRange : jCalS yT_isInRange cT_isInRange 2 (some .boolean) 2 := ⟨q278, q2, q279, by decide +kernel⟩
abbrev yT_isParting : MethodName := ⟨"TextPipeline$Table", "isParting", "(III)Z"⟩
abbrev cT_isParting : ByteArray := prog_8_method_4_code
abbrev wsT_isParting : List Cond := .code yT_isParting cT_isParting 3 (some .boolean) :: WS0
theorem kT_isParting : jCalS yT_isParting cT_isParting 3 (some .boolean) 3 := ⟨q361, q2, q362, by decide +kernel⟩
abbrev yT_isLead : MethodName := ⟨"TextPipeline$Table", "isLead", "(I)Z"⟩
abbrev cT_isLead : ByteArray := prog_8_method_5_code
abbrev wsT_isLead : List Cond := .code yT_isLead cT_isLead 1 (some .boolean) :: WS0
theorem kT_isLead : jCalS yT_isLead cT_isLead 1 (some .boolean) 1 := ⟨q197, q2, q198, by decide +kernel⟩
abbrev yT_isVowel : MethodName := ⟨"TextPipeline$Table", "isVowel", "(I)Z"⟩
abbrev cT_isVowel : ByteArray := prog_8_method_6_code
abbrev wsT_isVowel : List Cond := .code yT_isVowel cT_isVowel 1 (some .boolean) :: WS0
theorem kT_isVowel : jCalS yT_isVowel cT_isVowel 1 (some .boolean) 1 := ⟨q200, q2, q201, by decide +kernel⟩
abbrev yT_isTail : MethodName := ⟨"TextPipeline$Table", "isTail", "(I)Z"⟩
abbrev cT_isTail : ByteArray := prog_8_method_7_code
abbrev wsT_isTail : List Cond := .code yT_isTail cT_isTail 1 (some .boolean) :: WS0
theorem kT_isTail : jCalS yT_isTail cT_isTail 1 (some .boolean) 1 := ⟨q210, q2, q211, by decide +kernel⟩
abbrev yT_isSyllable : MethodName := ⟨"TextPipeline$Table", "isSyllable", "(I)Z"⟩
abbrev cT_isSyllable : ByteArray := prog_8_method_8_code
abbrev wsT_isSyllable : List Cond := .code yT_isSyllable cT_isSyllable 1 (some .boolean) :: WS0
theorem kT_isSyllable : jCalS yT_isSyllable cT_isSyllable 1 (some .boolean) 1 := ⟨q203, q2, q204, by decide +kernel⟩
abbrev yT_hasTail : MethodName := ⟨"TextPipeline$Table", "hasTail", "(I)Z"⟩
abbrev cT_hasTail : ByteArray := prog_8_method_9_code
abbrev wsT_hasTail : List Cond := .code yT_hasTail cT_hasTail 1 (some .boolean) :: WS0
theorem kT_hasTail : jCalS yT_hasTail cT_hasTail 1 (some .boolean) 1 := ⟨q206, q2, q207, by decide +kernel⟩
abbrev yT_change : MethodName := ⟨"TextPipeline$Table", "change", "(III)V"⟩
abbrev cT_change : ByteArray := prog_8_method_10_code
abbrev wsT_change : List Cond := .code yT_change cT_change 4 none :: WS0
theorem kT_change : jCalV yT_change "TextPipeline$Table" cT_change 4 none 3 := ⟨q349, q350, q2, q351, by decide +kernel⟩
abbrev yT_staysSmall : MethodName := ⟨"TextPipeline$Table", "staysSmall", "(III)Z"⟩
abbrev cT_staysSmall : ByteArray := prog_8_method_11_code
abbrev wsT_staysSmall : List Cond := .code yT_staysSmall cT_staysSmall 7 (some .boolean) :: WS0
theorem kT_staysSmall : jCalV yT_staysSmall "TextPipeline$Table" cT_staysSmall 7 (some .boolean) 3 := ⟨q366, q367, q2, q368, by decide +kernel⟩
abbrev yT_changeParting : MethodName := ⟨"TextPipeline$Table", "changeParting", "(IIIZ)V"⟩
abbrev cT_changeParting : ByteArray := prog_8_method_12_code
abbrev wsT_changeParting : List Cond := .code yT_changeParting cT_changeParting 5 none :: WS0
theorem kT_changeParting : jCalV yT_changeParting "TextPipeline$Table" cT_changeParting 5 none 4 := ⟨q386, q387, q2, q388, by decide +kernel⟩
abbrev yT_rank : MethodName := ⟨"TextPipeline$Table", "rank", "(I)I"⟩
abbrev cT_rank : ByteArray := prog_8_method_13_code
abbrev wsT_rank : List Cond := .code yT_rank cT_rank 2 (some .int) :: WS0
theorem kT_rank : jCalV yT_rank "TextPipeline$Table" cT_rank 2 (some .int) 1 := ⟨q244, q245, q2, q246, by decide +kernel⟩
abbrev yT_clusterClass : MethodName := ⟨"TextPipeline$Table", "clusterClass", "(I)I"⟩
abbrev cT_clusterClass : ByteArray := prog_8_method_14_code
abbrev wsT_clusterClass : List Cond := .code yT_clusterClass cT_clusterClass 2 (some .int) :: WS0
theorem kT_clusterClass : jCalV yT_clusterClass "TextPipeline$Table" cT_clusterClass 2 (some .int) 1 := ⟨q187, q188, q2, q189, by decide +kernel⟩
abbrev yT_lineClass : MethodName := ⟨"TextPipeline$Table", "lineClass", "(I)I"⟩
abbrev cT_lineClass : ByteArray := prog_8_method_15_code
abbrev wsT_lineClass : List Cond := .code yT_lineClass cT_lineClass 2 (some .int) :: WS0
theorem kT_lineClass : jCalV yT_lineClass "TextPipeline$Table" cT_lineClass 2 (some .int) 1 := ⟨q484, q485, q2, q486, by decide +kernel⟩
abbrev yT_sideClass : MethodName := ⟨"TextPipeline$Table", "sideClass", "(I)I"⟩
abbrev cT_sideClass : ByteArray := prog_8_method_16_code
abbrev wsT_sideClass : List Cond := .code yT_sideClass cT_sideClass 2 (some .int) :: WS0
theorem kT_sideClass : jCalV yT_sideClass "TextPipeline$Table" cT_sideClass 2 (some .int) 1 := ⟨q523, q524, q2, q525, by decide +kernel⟩
abbrev yT_weight : MethodName := ⟨"TextPipeline$Table", "weight", "(II)I"⟩
abbrev cT_weight : ByteArray := prog_8_method_17_code
abbrev wsT_weight : List Cond := .code yT_weight cT_weight 3 (some .int) :: WS0
theorem kT_weight : jCalV yT_weight "TextPipeline$Table" cT_weight 3 (some .int) 2 := ⟨q263, q264, q2, q265, by decide +kernel⟩
abbrev yT_partsOf : MethodName := ⟨"TextPipeline$Table", "partsOf", "(I)I"⟩
abbrev cT_partsOf : ByteArray := prog_8_method_18_code
abbrev wsT_partsOf : List Cond := .code yT_partsOf cT_partsOf 2 (some .int) :: WS0
theorem kT_partsOf : jCalV yT_partsOf "TextPipeline$Table" cT_partsOf 2 (some .int) 1 := ⟨q236, q237, q2, q238, by decide +kernel⟩
abbrev yT_partOf : MethodName := ⟨"TextPipeline$Table", "partOf", "(II)I"⟩
abbrev cT_partOf : ByteArray := prog_8_method_19_code
abbrev wsT_partOf : List Cond := .code yT_partOf cT_partOf 3 (some .int) :: WS0
theorem kT_partOf : jCalV yT_partOf "TextPipeline$Table" cT_partOf 3 (some .int) 2 := ⟨q61, q62, q2, q63, by decide +kernel⟩
abbrev yT_joinOf : MethodName := ⟨"TextPipeline$Table", "joinOf", "(II)I"⟩
abbrev cT_joinOf : ByteArray := prog_8_method_20_code
abbrev wsT_joinOf : List Cond := .code yT_joinOf cT_joinOf 5 (some .int) :: WS0
theorem kT_joinOf : jCalV yT_joinOf "TextPipeline$Table" cT_joinOf 5 (some .int) 2 := ⟨q413, q414, q2, q415, by decide +kernel⟩
abbrev yT_fillFixedProperties : MethodName := ⟨"TextPipeline$Table", "fillFixedProperties", "()V"⟩
abbrev cT_fillFixedProperties : ByteArray := prog_8_method_21_code
abbrev wsT_fillFixedProperties : List Cond := .code yT_fillFixedProperties cT_fillFixedProperties 3 none :: WS0
theorem kT_fillFixedProperties : jCalV yT_fillFixedProperties "TextPipeline$Table" cT_fillFixedProperties 3 none 0 := ⟨q38, (ws0_s (i := 0) (q := (⟨"TextPipeline$Table", "fillFixedProperties", "()V"⟩, 7)) (by decide +kernel) (by decide +kernel)), q2, q39, by decide +kernel⟩
abbrev yT_fillPartings : MethodName := ⟨"TextPipeline$Table", "fillPartings", "()V"⟩
abbrev cT_fillPartings : ByteArray := prog_8_method_22_code
abbrev wsT_fillPartings : List Cond := .code yT_fillPartings cT_fillPartings 2 none :: WS0
theorem kT_fillPartings : jCalV yT_fillPartings "TextPipeline$Table" cT_fillPartings 2 none 0 := ⟨q42, (ws0_s (i := 1) (q := (⟨"TextPipeline$Table", "fillPartings", "()V"⟩, 7)) (by decide +kernel) (by decide +kernel)), q2, q43, by decide +kernel⟩
abbrev yT_fillSyllable : MethodName := ⟨"TextPipeline$Table", "fillSyllable", "(II)V"⟩
abbrev cT_fillSyllable : ByteArray := prog_8_method_23_code
abbrev wsT_fillSyllable : List Cond := .code yT_fillSyllable cT_fillSyllable 4 none :: WS0
theorem kT_fillSyllable : jCalV yT_fillSyllable "TextPipeline$Table" cT_fillSyllable 4 none 2 := ⟨q46, (ws0_s (i := 2) (q := (⟨"TextPipeline$Table", "fillSyllable", "(II)V"⟩, 7)) (by decide +kernel) (by decide +kernel)), q2, q47, by decide +kernel⟩
abbrev yT_partAll : MethodName := ⟨"TextPipeline$Table", "partAll", "()V"⟩
abbrev cT_partAll : ByteArray := prog_8_method_24_code
abbrev wsT_partAll : List Cond := .code yT_partAll cT_partAll 2 none :: WS0
theorem kT_partAll : jCalV yT_partAll "TextPipeline$Table" cT_partAll 2 none 0 := ⟨q50, (ws0_s (i := 3) (q := (⟨"TextPipeline$Table", "partAll", "()V"⟩, 7)) (by decide +kernel) (by decide +kernel)), q2, q51, by decide +kernel⟩
abbrev yT_addPartsOf : MethodName := ⟨"TextPipeline$Table", "addPartsOf", "(II)V"⟩
abbrev cT_addPartsOf : ByteArray := prog_8_method_25_code
abbrev wsT_addPartsOf : List Cond := .code yT_addPartsOf cT_addPartsOf 4 none :: WS0
theorem kT_addPartsOf : jCalV yT_addPartsOf "TextPipeline$Table" cT_addPartsOf 4 none 2 := ⟨q58, (ws0_s (i := 5) (q := (⟨"TextPipeline$Table", "addPartsOf", "(II)V"⟩, 7)) (by decide +kernel) (by decide +kernel)), q2, q59, by decide +kernel⟩
abbrev yT_addPart : MethodName := ⟨"TextPipeline$Table", "addPart", "(II)V"⟩
abbrev cT_addPart : ByteArray := prog_8_method_26_code
abbrev wsT_addPart : List Cond := .code yT_addPart cT_addPart 3 none :: WS0
theorem kT_addPart : jCalV yT_addPart "TextPipeline$Table" cT_addPart 3 none 2 := ⟨q54, (ws0_s (i := 4) (q := (⟨"TextPipeline$Table", "addPart", "(II)V"⟩, 7)) (by decide +kernel) (by decide +kernel)), q2, q55, by decide +kernel⟩
abbrev yR_init : MethodName := ⟨"TextPipeline$Row", "<init>", "(I)V"⟩
abbrev cR_init : ByteArray := prog_6_method_1_code
abbrev wsR_init : List Cond := .code yR_init cR_init 2 none :: WS0
abbrev yR_size : MethodName := ⟨"TextPipeline$Row", "size", "()I"⟩
abbrev cR_size : ByteArray := prog_6_method_2_code
abbrev wsR_size : List Cond := .code yR_size cR_size 1 (some .int) :: WS0
theorem kR_size : jCalV yR_size "TextPipeline$Row" cR_size 1 (some .int) 0 := ⟨q175, q176, q3, q177, by decide +kernel⟩
abbrev yR_item : MethodName := ⟨"TextPipeline$Row", "item", "(I)I"⟩
abbrev cR_item : ByteArray := prog_6_method_3_code
abbrev wsR_item : List Cond := .code yR_item cR_item 2 (some .int) :: WS0
theorem kR_item : jCalV yR_item "TextPipeline$Row" cR_item 2 (some .int) 1 := ⟨q183, q184, q3, q185, by decide +kernel⟩
abbrev yR_put : MethodName := ⟨"TextPipeline$Row", "put", "(II)V"⟩
abbrev cR_put : ByteArray := prog_6_method_4_code
abbrev wsR_put : List Cond := .code yR_put cR_put 3 none :: WS0
theorem kR_put : jCalV yR_put "TextPipeline$Row" cR_put 3 none 2 := ⟨q417, q418, q3, q419, by decide +kernel⟩
abbrev yR_add : MethodName := ⟨"TextPipeline$Row", "add", "(I)V"⟩
abbrev cR_add : ByteArray := prog_6_method_5_code
abbrev wsR_add : List Cond := .code yR_add cR_add 2 none :: WS0
theorem kR_add : jCalV yR_add "TextPipeline$Row" cR_add 2 none 1 := ⟨q256, q257, q3, q258, by decide +kernel⟩
abbrev yR_insert : MethodName := ⟨"TextPipeline$Row", "insert", "(II)V"⟩
abbrev cR_insert : ByteArray := prog_6_method_6_code
abbrev wsR_insert : List Cond := .code yR_insert cR_insert 4 none :: WS0
theorem kR_insert : jCalV yR_insert "TextPipeline$Row" cR_insert 4 none 2 := ⟨q248, q249, q3, q250, by decide +kernel⟩
abbrev yR_cutTo : MethodName := ⟨"TextPipeline$Row", "cutTo", "(I)V"⟩
abbrev cR_cutTo : ByteArray := prog_6_method_7_code
abbrev wsR_cutTo : List Cond := .code yR_cutTo cR_cutTo 2 none :: WS0
theorem kR_cutTo : jCalV yR_cutTo "TextPipeline$Row" cR_cutTo 2 none 1 := ⟨q161, q162, q3, q163, by decide +kernel⟩
abbrev yR_copyOf : MethodName := ⟨"TextPipeline$Row", "copyOf", "(LTextPipeline$Row;)V"⟩
abbrev cR_copyOf : ByteArray := prog_6_method_8_code
abbrev wsR_copyOf : List Cond := .code yR_copyOf cR_copyOf 4 none :: WS0
theorem kR_copyOf : jCalV yR_copyOf "TextPipeline$Row" cR_copyOf 4 none 1 := ⟨q422, q423, q3, q424, by decide +kernel⟩
abbrev yR_comparedWith : MethodName := ⟨"TextPipeline$Row", "comparedWith", "(LTextPipeline$Row;)I"⟩
abbrev cR_comparedWith : ByteArray := prog_6_method_9_code
abbrev wsR_comparedWith : List Cond := .code yR_comparedWith cR_comparedWith 4 (some .int) :: WS0
theorem kR_comparedWith : jCalV yR_comparedWith "TextPipeline$Row" cR_comparedWith 4 (some .int) 1 := ⟨q632, q633, q3, q634, by decide +kernel⟩
abbrev yL_init : MethodName := ⟨"TextPipeline$Lines", "<init>", "()V"⟩
abbrev cL_init : ByteArray := prog_5_method_1_code
abbrev wsL_init : List Cond := .code yL_init cL_init 1 none :: WS0
abbrev yL_endBefore : MethodName := ⟨"TextPipeline$Lines", "endBefore", "(LTextPipeline$Table;LTextPipeline$Row;I)I"⟩
abbrev cL_endBefore : ByteArray := prog_5_method_2_code
abbrev wsL_endBefore : List Cond := .code yL_endBefore cL_endBefore 5 (some .int) :: WS0
theorem kL_endBefore : jCalV yL_endBefore "TextPipeline$Lines" cL_endBefore 5 (some .int) 3 := ⟨q474, q475, q4, q476, by decide +kernel⟩
abbrev yL_findKinds : MethodName := ⟨"TextPipeline$Lines", "findKinds", "(LTextPipeline$Table;LTextPipeline$Row;)V"⟩
abbrev cL_findKinds : ByteArray := prog_5_method_3_code
abbrev wsL_findKinds : List Cond := .code yL_findKinds cL_findKinds 6 none :: WS0
theorem kL_findKinds : jCalV yL_findKinds "TextPipeline$Lines" cL_findKinds 6 none 2 := ⟨q480, (ws0_s (i := 10) (q := (⟨"TextPipeline$Lines", "findKinds", "(LTextPipeline$Table;LTextPipeline$Row;)V"⟩, 1)) (by decide +kernel) (by decide +kernel)), q4, q481, by decide +kernel⟩
abbrev yL_kindOverSpaces : MethodName := ⟨"TextPipeline$Lines", "kindOverSpaces", "(I)I"⟩
abbrev cL_kindOverSpaces : ByteArray := prog_5_method_4_code
abbrev wsL_kindOverSpaces : List Cond := .code yL_kindOverSpaces cL_kindOverSpaces 3 (some .int) :: WS0
theorem kL_kindOverSpaces : jCalV yL_kindOverSpaces "TextPipeline$Lines" cL_kindOverSpaces 3 (some .int) 1 := ⟨q492, (ws0_s (i := 11) (q := (⟨"TextPipeline$Lines", "kindOverSpaces", "(I)I"⟩, 1)) (by decide +kernel) (by decide +kernel)), q4, q493, by decide +kernel⟩
abbrev yL_endBetween : MethodName := ⟨"TextPipeline$Lines", "endBetween", "(IIIZ)I"⟩
abbrev cL_endBetween : ByteArray := prog_5_method_5_code
abbrev wsL_endBetween : List Cond := .code yL_endBetween cL_endBetween 4 (some .int) :: WS0
theorem kL_endBetween : jCalS yL_endBetween cL_endBetween 4 (some .int) 4 := ⟨q495, q4, q496, by decide +kernel⟩
abbrev yL_isGap : MethodName := ⟨"TextPipeline$Lines", "isGap", "(I)Z"⟩
abbrev cL_isGap : ByteArray := prog_5_method_6_code
abbrev wsL_isGap : List Cond := .code yL_isGap cL_isGap 1 (some .boolean) :: WS0
theorem kL_isGap : jCalS yL_isGap cL_isGap 1 (some .boolean) 1 := ⟨q488, q4, q489, by decide +kernel⟩
abbrev yL_isWord : MethodName := ⟨"TextPipeline$Lines", "isWord", "(I)Z"⟩
abbrev cL_isWord : ByteArray := prog_5_method_7_code
abbrev wsL_isWord : List Cond := .code yL_isWord cL_isWord 1 (some .boolean) :: WS0
theorem kL_isWord : jCalS yL_isWord cL_isWord 1 (some .boolean) 1 := ⟨q504, q4, q505, by decide +kernel⟩
abbrev yL_holdsOverSpaces : MethodName := ⟨"TextPipeline$Lines", "holdsOverSpaces", "(III)Z"⟩
abbrev cL_holdsOverSpaces : ByteArray := prog_5_method_8_code
abbrev wsL_holdsOverSpaces : List Cond := .code yL_holdsOverSpaces cL_holdsOverSpaces 3 (some .boolean) :: WS0
theorem kL_holdsOverSpaces : jCalS yL_holdsOverSpaces cL_holdsOverSpaces 3 (some .boolean) 3 := ⟨q498, q4, q499, by decide +kernel⟩
abbrev yL_holdsSideBySide : MethodName := ⟨"TextPipeline$Lines", "holdsSideBySide", "(II)Z"⟩
abbrev cL_holdsSideBySide : ByteArray := prog_5_method_9_code
abbrev wsL_holdsSideBySide : List Cond := .code yL_holdsSideBySide cL_holdsSideBySide 2 (some .boolean) :: WS0
theorem kL_holdsSideBySide : jCalS yL_holdsSideBySide cL_holdsSideBySide 2 (some .boolean) 2 := ⟨q501, q4, q502, by decide +kernel⟩
abbrev yS_init : MethodName := ⟨"TextPipeline$Sides", "<init>", "()V"⟩
abbrev cS_init : ByteArray := prog_7_method_1_code
abbrev wsS_init : List Cond := .code yS_init cS_init 1 none :: WS0
abbrev yS_levelOf : MethodName := ⟨"TextPipeline$Sides", "levelOf", "(I)I"⟩
abbrev cS_levelOf : ByteArray := prog_7_method_2_code
abbrev wsS_levelOf : List Cond := .code yS_levelOf cS_levelOf 2 (some .int) :: WS0
theorem kS_levelOf : jCalV yS_levelOf "TextPipeline$Sides" cS_levelOf 2 (some .int) 1 := ⟨q579, q580, q5, q581, by decide +kernel⟩
abbrev yS_readAs : MethodName := ⟨"TextPipeline$Sides", "readAs", "(I)I"⟩
abbrev cS_readAs : ByteArray := prog_7_method_3_code
abbrev wsS_readAs : List Cond := .code yS_readAs cS_readAs 2 (some .int) :: WS0
theorem kS_readAs : jCalV yS_readAs "TextPipeline$Sides" cS_readAs 2 (some .int) 1 := ⟨q602, q603, q5, q604, by decide +kernel⟩
abbrev yS_findLevels : MethodName := ⟨"TextPipeline$Sides", "findLevels", "(LTextPipeline$Table;LTextPipeline$Row;I)V"⟩
abbrev cS_findLevels : ByteArray := prog_7_method_4_code
abbrev wsS_findLevels : List Cond := .code yS_findLevels cS_findLevels 7 none :: WS0
theorem kS_findLevels : jCalV yS_findLevels "TextPipeline$Sides" cS_findLevels 7 none 3 := ⟨q514, q515, q5, q516, by decide +kernel⟩
abbrev yS_findOrder : MethodName := ⟨"TextPipeline$Sides", "findOrder", "(I)V"⟩
abbrev cS_findOrder : ByteArray := prog_7_method_5_code
abbrev wsS_findOrder : List Cond := .code yS_findOrder cS_findOrder 3 none :: WS0
theorem kS_findOrder : jCalV yS_findOrder "TextPipeline$Sides" cS_findOrder 3 none 1 := ⟨q590, q591, q5, q592, by decide +kernel⟩
abbrev yS_baseOf : MethodName := ⟨"TextPipeline$Sides", "baseOf", "(LTextPipeline$Table;LTextPipeline$Row;)I"⟩
abbrev cS_baseOf : ByteArray := prog_7_method_6_code
abbrev wsS_baseOf : List Cond := .code yS_baseOf cS_baseOf 4 (some .int) :: WS0
theorem kS_baseOf : jCalS yS_baseOf cS_baseOf 4 (some .int) 2 := ⟨q519, q5, q520, by decide +kernel⟩
abbrev yS_isLetter : MethodName := ⟨"TextPipeline$Sides", "isLetter", "(I)Z"⟩
abbrev cS_isLetter : ByteArray := prog_7_method_7_code
abbrev wsS_isLetter : List Cond := .code yS_isLetter cS_isLetter 1 (some .boolean) :: WS0
theorem kS_isLetter : jCalS yS_isLetter cS_isLetter 1 (some .boolean) 1 := ⟨q527, q5, q528, by decide +kernel⟩
abbrev yS_isNeutral : MethodName := ⟨"TextPipeline$Sides", "isNeutral", "(I)Z"⟩
abbrev cS_isNeutral : ByteArray := prog_7_method_8_code
abbrev wsS_isNeutral : List Cond := .code yS_isNeutral cS_isNeutral 1 (some .boolean) :: WS0
theorem kS_isNeutral : jCalS yS_isNeutral cS_isNeutral 1 (some .boolean) 1 := ⟨q562, q5, q563, by decide +kernel⟩
abbrev yS_readsRight : MethodName := ⟨"TextPipeline$Sides", "readsRight", "(I)Z"⟩
abbrev cS_readsRight : ByteArray := prog_7_method_9_code
abbrev wsS_readsRight : List Cond := .code yS_readsRight cS_readsRight 1 (some .boolean) :: WS0
theorem kS_readsRight : jCalS yS_readsRight cS_readsRight 1 (some .boolean) 1 := ⟨q569, q5, q570, by decide +kernel⟩
abbrev yS_takeKinds : MethodName := ⟨"TextPipeline$Sides", "takeKinds", "(LTextPipeline$Table;LTextPipeline$Row;I)V"⟩
abbrev cS_takeKinds : ByteArray := prog_7_method_10_code
abbrev wsS_takeKinds : List Cond := .code yS_takeKinds cS_takeKinds 5 none :: WS0
theorem kS_takeKinds : jCalV yS_takeKinds "TextPipeline$Sides" cS_takeKinds 5 none 3 := ⟨q531, (ws0_s (i := 12) (q := (⟨"TextPipeline$Sides", "takeKinds", "(LTextPipeline$Table;LTextPipeline$Row;I)V"⟩, 3)) (by decide +kernel) (by decide +kernel)), q5, q532, by decide +kernel⟩
abbrev yS_takeFromFront : MethodName := ⟨"TextPipeline$Sides", "takeFromFront", "(I)V"⟩
abbrev cS_takeFromFront : ByteArray := prog_7_method_11_code
abbrev wsS_takeFromFront : List Cond := .code yS_takeFromFront cS_takeFromFront 3 none :: WS0
theorem kS_takeFromFront : jCalV yS_takeFromFront "TextPipeline$Sides" cS_takeFromFront 3 none 1 := ⟨q535, (ws0_s (i := 13) (q := (⟨"TextPipeline$Sides", "takeFromFront", "(I)V"⟩, 3)) (by decide +kernel) (by decide +kernel)), q5, q536, by decide +kernel⟩
abbrev yS_changeArabs : MethodName := ⟨"TextPipeline$Sides", "changeArabs", "(I)V"⟩
abbrev cS_changeArabs : ByteArray := prog_7_method_12_code
abbrev wsS_changeArabs : List Cond := .code yS_changeArabs cS_changeArabs 4 none :: WS0
theorem kS_changeArabs : jCalV yS_changeArabs "TextPipeline$Sides" cS_changeArabs 4 none 1 := ⟨q539, (ws0_s (i := 14) (q := (⟨"TextPipeline$Sides", "changeArabs", "(I)V"⟩, 3)) (by decide +kernel) (by decide +kernel)), q5, q540, by decide +kernel⟩
abbrev yS_joinNumbers : MethodName := ⟨"TextPipeline$Sides", "joinNumbers", "(I)V"⟩
abbrev cS_joinNumbers : ByteArray := prog_7_method_13_code
abbrev wsS_joinNumbers : List Cond := .code yS_joinNumbers cS_joinNumbers 5 none :: WS0
theorem kS_joinNumbers : jCalV yS_joinNumbers "TextPipeline$Sides" cS_joinNumbers 5 none 1 := ⟨q543, (ws0_s (i := 15) (q := (⟨"TextPipeline$Sides", "joinNumbers", "(I)V"⟩, 3)) (by decide +kernel) (by decide +kernel)), q5, q544, by decide +kernel⟩
abbrev yS_changeUnits : MethodName := ⟨"TextPipeline$Sides", "changeUnits", "(I)V"⟩
abbrev cS_changeUnits : ByteArray := prog_7_method_14_code
abbrev wsS_changeUnits : List Cond := .code yS_changeUnits cS_changeUnits 5 none :: WS0
theorem kS_changeUnits : jCalV yS_changeUnits "TextPipeline$Sides" cS_changeUnits 5 none 1 := ⟨q547, (ws0_s (i := 16) (q := (⟨"TextPipeline$Sides", "changeUnits", "(I)V"⟩, 3)) (by decide +kernel) (by decide +kernel)), q5, q548, by decide +kernel⟩
abbrev yS_changeLeftNumbers : MethodName := ⟨"TextPipeline$Sides", "changeLeftNumbers", "(I)V"⟩
abbrev cS_changeLeftNumbers : ByteArray := prog_7_method_15_code
abbrev wsS_changeLeftNumbers : List Cond := .code yS_changeLeftNumbers cS_changeLeftNumbers 4 none :: WS0
theorem kS_changeLeftNumbers : jCalV yS_changeLeftNumbers "TextPipeline$Sides" cS_changeLeftNumbers 4 none 1 := ⟨q555, (ws0_s (i := 18) (q := (⟨"TextPipeline$Sides", "changeLeftNumbers", "(I)V"⟩, 3)) (by decide +kernel) (by decide +kernel)), q5, q556, by decide +kernel⟩
abbrev yS_changeNeutrals : MethodName := ⟨"TextPipeline$Sides", "changeNeutrals", "(I)V"⟩
abbrev cS_changeNeutrals : ByteArray := prog_7_method_16_code
abbrev wsS_changeNeutrals : List Cond := .code yS_changeNeutrals cS_changeNeutrals 4 none :: WS0
theorem kS_changeNeutrals : jCalV yS_changeNeutrals "TextPipeline$Sides" cS_changeNeutrals 4 none 1 := ⟨q559, (ws0_s (i := 19) (q := (⟨"TextPipeline$Sides", "changeNeutrals", "(I)V"⟩, 3)) (by decide +kernel) (by decide +kernel)), q5, q560, by decide +kernel⟩
abbrev yS_kindBetween : MethodName := ⟨"TextPipeline$Sides", "kindBetween", "(II)I"⟩
abbrev cS_kindBetween : ByteArray := prog_7_method_17_code
abbrev wsS_kindBetween : List Cond := .code yS_kindBetween cS_kindBetween 3 (some .int) :: WS0
theorem kS_kindBetween : jCalV yS_kindBetween "TextPipeline$Sides" cS_kindBetween 3 (some .int) 2 := ⟨q566, (ws0_s (i := 20) (q := (⟨"TextPipeline$Sides", "kindBetween", "(II)I"⟩, 3)) (by decide +kernel) (by decide +kernel)), q5, q567, by decide +kernel⟩
abbrev yS_fillKinds : MethodName := ⟨"TextPipeline$Sides", "fillKinds", "(III)V"⟩
abbrev cS_fillKinds : ByteArray := prog_7_method_18_code
abbrev wsS_fillKinds : List Cond := .code yS_fillKinds cS_fillKinds 5 none :: WS0
theorem kS_fillKinds : jCalV yS_fillKinds "TextPipeline$Sides" cS_fillKinds 5 none 3 := ⟨q551, (ws0_s (i := 17) (q := (⟨"TextPipeline$Sides", "fillKinds", "(III)V"⟩, 3)) (by decide +kernel) (by decide +kernel)), q5, q552, by decide +kernel⟩
abbrev yS_levelFor : MethodName := ⟨"TextPipeline$Sides", "levelFor", "(II)I"⟩
abbrev cS_levelFor : ByteArray := prog_7_method_19_code
abbrev wsS_levelFor : List Cond := .code yS_levelFor cS_levelFor 2 (some .int) :: WS0
theorem kS_levelFor : jCalS yS_levelFor cS_levelFor 2 (some .int) 2 := ⟨q572, q5, q573, by decide +kernel⟩
abbrev yS_resetGaps : MethodName := ⟨"TextPipeline$Sides", "resetGaps", "(LTextPipeline$Table;LTextPipeline$Row;I)V"⟩
abbrev cS_resetGaps : ByteArray := prog_7_method_20_code
abbrev wsS_resetGaps : List Cond := .code yS_resetGaps cS_resetGaps 7 none :: WS0
theorem kS_resetGaps : jCalV yS_resetGaps "TextPipeline$Sides" cS_resetGaps 7 none 3 := ⟨q576, (ws0_s (i := 21) (q := (⟨"TextPipeline$Sides", "resetGaps", "(LTextPipeline$Table;LTextPipeline$Row;I)V"⟩, 3)) (by decide +kernel) (by decide +kernel)), q5, q577, by decide +kernel⟩
abbrev yS_turnRows : MethodName := ⟨"TextPipeline$Sides", "turnRows", "(II)V"⟩
abbrev cS_turnRows : ByteArray := prog_7_method_21_code
abbrev wsS_turnRows : List Cond := .code yS_turnRows cS_turnRows 5 none :: WS0
theorem kS_turnRows : jCalV yS_turnRows "TextPipeline$Sides" cS_turnRows 5 none 2 := ⟨q595, (ws0_s (i := 22) (q := (⟨"TextPipeline$Sides", "turnRows", "(II)V"⟩, 3)) (by decide +kernel) (by decide +kernel)), q5, q596, by decide +kernel⟩
abbrev yS_turnRound : MethodName := ⟨"TextPipeline$Sides", "turnRound", "(II)V"⟩
abbrev cS_turnRound : ByteArray := prog_7_method_22_code
abbrev wsS_turnRound : List Cond := .code yS_turnRound cS_turnRound 6 none :: WS0
theorem kS_turnRound : jCalV yS_turnRound "TextPipeline$Sides" cS_turnRound 6 none 2 := ⟨q599, (ws0_s (i := 23) (q := (⟨"TextPipeline$Sides", "turnRound", "(II)V"⟩, 3)) (by decide +kernel) (by decide +kernel)), q5, q600, by decide +kernel⟩
abbrev yC_endsBefore : MethodName := ⟨"TextPipeline$Clusters", "endsBefore", "(LTextPipeline$Table;LTextPipeline$Row;I)Z"⟩
abbrev cC_endsBefore : ByteArray := prog_2_method_2_code
abbrev wsC_endsBefore : List Cond := .code yC_endsBefore cC_endsBefore 5 (some .boolean) :: WS0
theorem kC_endsBefore : jCalS yC_endsBefore cC_endsBefore 5 (some .boolean) 3 := ⟨q179, q15, q180, by decide +kernel⟩
abbrev yC_standsAlone : MethodName := ⟨"TextPipeline$Clusters", "standsAlone", "(I)Z"⟩
abbrev cC_standsAlone : ByteArray := prog_2_method_3_code
abbrev wsC_standsAlone : List Cond := .code yC_standsAlone cC_standsAlone 1 (some .boolean) :: WS0
theorem kC_standsAlone : jCalS yC_standsAlone cC_standsAlone 1 (some .boolean) 1 := ⟨q191, q15, q192, by decide +kernel⟩
abbrev yC_staysInSyllable : MethodName := ⟨"TextPipeline$Clusters", "staysInSyllable", "(II)Z"⟩
abbrev cC_staysInSyllable : ByteArray := prog_2_method_4_code
abbrev wsC_staysInSyllable : List Cond := .code yC_staysInSyllable cC_staysInSyllable 2 (some .boolean) :: WS0
theorem kC_staysInSyllable : jCalS yC_staysInSyllable cC_staysInSyllable 2 (some .boolean) 2 := ⟨q194, q15, q195, by decide +kernel⟩
abbrev yC_isAttached : MethodName := ⟨"TextPipeline$Clusters", "isAttached", "(II)Z"⟩
abbrev cC_isAttached : ByteArray := prog_2_method_5_code
abbrev wsC_isAttached : List Cond := .code yC_isAttached cC_isAttached 2 (some .boolean) :: WS0
theorem kC_isAttached : jCalS yC_isAttached cC_isAttached 2 (some .boolean) 2 := ⟨q213, q15, q214, by decide +kernel⟩
abbrev yC_isJoinedPicture : MethodName := ⟨"TextPipeline$Clusters", "isJoinedPicture", "(LTextPipeline$Table;LTextPipeline$Row;I)Z"⟩
abbrev cC_isJoinedPicture : ByteArray := prog_2_method_6_code
abbrev wsC_isJoinedPicture : List Cond := .code yC_isJoinedPicture cC_isJoinedPicture 4 (some .boolean) :: WS0
theorem kC_isJoinedPicture : jCalS yC_isJoinedPicture cC_isJoinedPicture 4 (some .boolean) 3 := ⟨q216, q15, q217, by decide +kernel⟩
abbrev yC_isSecondRegion : MethodName := ⟨"TextPipeline$Clusters", "isSecondRegion", "(LTextPipeline$Table;LTextPipeline$Row;I)Z"⟩
abbrev cC_isSecondRegion : ByteArray := prog_2_method_7_code
abbrev wsC_isSecondRegion : List Cond := .code yC_isSecondRegion cC_isSecondRegion 4 (some .boolean) :: WS0
theorem kC_isSecondRegion : jCalS yC_isSecondRegion cC_isSecondRegion 4 (some .boolean) 3 := ⟨q219, q15, q220, by decide +kernel⟩
abbrev yF_fillParted : MethodName := ⟨"TextPipeline$Forms", "fillParted", "(LTextPipeline$Table;LTextPipeline$Row;LTextPipeline$Row;)V"⟩
abbrev cF_fillParted : ByteArray := prog_3_method_2_code
abbrev wsF_fillParted : List Cond := .code yF_fillParted cF_fillParted 6 none :: WS0
theorem kF_fillParted : jCalS yF_fillParted cF_fillParted 6 none 3 := ⟨q230, q13, q231, by decide +kernel⟩
abbrev yF_joinAll : MethodName := ⟨"TextPipeline$Forms", "joinAll", "(LTextPipeline$Table;LTextPipeline$Row;)V"⟩
abbrev cF_joinAll : ByteArray := prog_3_method_3_code
abbrev wsF_joinAll : List Cond := .code yF_joinAll cF_joinAll 7 none :: WS0
theorem kF_joinAll : jCalS yF_joinAll cF_joinAll 7 none 2 := ⟨q407, q13, q408, by decide +kernel⟩
abbrev yF_insertByRank : MethodName := ⟨"TextPipeline$Forms", "insertByRank", "(LTextPipeline$Table;LTextPipeline$Row;I)V"⟩
abbrev cF_insertByRank : ByteArray := prog_3_method_4_code
abbrev wsF_insertByRank : List Cond := .code yF_insertByRank cF_insertByRank 5 none :: WS0
theorem kF_insertByRank : jCalS yF_insertByRank cF_insertByRank 5 none 3 := ⟨q241, q13, q242, by decide +kernel⟩
abbrev yF_openStarter : MethodName := ⟨"TextPipeline$Forms", "openStarter", "(LTextPipeline$Table;LTextPipeline$Row;II)I"⟩
abbrev cF_openStarter : ByteArray := prog_3_method_5_code
abbrev wsF_openStarter : List Cond := .code yF_openStarter cF_openStarter 6 (some .int) :: WS0
theorem kF_openStarter : jCalS yF_openStarter cF_openStarter 6 (some .int) 4 := ⟨q410, q13, q411, by decide +kernel⟩
abbrev yK_fill : MethodName := ⟨"TextPipeline$Keys", "fill", "(LTextPipeline$Table;LTextPipeline$Row;LTextPipeline$Row;)V"⟩
abbrev cK_fill : ByteArray := prog_4_method_2_code
abbrev wsK_fill : List Cond := .code yK_fill cK_fill 6 none :: WS0
theorem kK_fill : jCalS yK_fill cK_fill 6 none 3 := ⟨q252, q16, q253, by decide +kernel⟩
abbrev yM_init : MethodName := ⟨"TextPipelineModel", "<init>", "()V"⟩
abbrev cM_init : ByteArray := prog_10_method_1_code
abbrev wsM_init : List Cond := .code yM_init cM_init 2 none :: WS0
abbrev yM_thrown : MethodName := ⟨"TextPipelineModel", "thrown", "()I"⟩
abbrev cM_thrown : ByteArray := prog_10_method_2_code
abbrev wsM_thrown : List Cond := .code yM_thrown cM_thrown 1 (some .int) :: WS0
theorem kM_thrown : jCalV yM_thrown "TextPipelineModel" cM_thrown 1 (some .int) 0 := ⟨q725, q726, q6, q727, by decide +kernel⟩
abbrev yM_set : MethodName := ⟨"TextPipelineModel", "set", "(III)V"⟩
abbrev cM_set : ByteArray := prog_10_method_3_code
abbrev wsM_set : List Cond := .code yM_set cM_set 5 none :: WS0
theorem kM_set : jCalV yM_set "TextPipelineModel" cM_set 5 none 3 := ⟨q729, q730, q6, q731, by decide +kernel⟩
abbrev yM_isShort : MethodName := ⟨"TextPipelineModel", "isShort", "()Z"⟩
abbrev cM_isShort : ByteArray := prog_10_method_4_code
abbrev wsM_isShort : List Cond := .code yM_isShort cM_isShort 3 (some .boolean) :: WS0
theorem kM_isShort : jCalV yM_isShort "TextPipelineModel" cM_isShort 3 (some .boolean) 0 := ⟨q738, (ws0_s (i := 24) (q := (⟨"TextPipelineModel", "isShort", "()Z"⟩, 24)) (by decide +kernel) (by decide +kernel)), q6, q739, by decide +kernel⟩
abbrev yM_part : MethodName := ⟨"TextPipelineModel", "part", "(IIIZ)V"⟩
abbrev cM_part : ByteArray := prog_10_method_5_code
abbrev wsM_part : List Cond := .code yM_part cM_part 7 none :: WS0
theorem kM_part : jCalV yM_part "TextPipelineModel" cM_part 7 none 4 := ⟨q733, q734, q6, q735, by decide +kernel⟩
abbrev yM_property : MethodName := ⟨"TextPipelineModel", "property", "(II)I"⟩
abbrev cM_property : ByteArray := prog_10_method_6_code
abbrev wsM_property : List Cond := .code yM_property cM_property 3 (some .int) :: WS0
theorem kM_property : jCalV yM_property "TextPipelineModel" cM_property 3 (some .int) 2 := ⟨q782, (ws0_s (i := 31) (q := (⟨"TextPipelineModel", "property", "(II)I"⟩, 24)) (by decide +kernel) (by decide +kernel)), q6, q783, by decide +kernel⟩
abbrev yM_rank : MethodName := ⟨"TextPipelineModel", "rank", "(I)I"⟩
abbrev cM_rank : ByteArray := prog_10_method_7_code
abbrev wsM_rank : List Cond := .code yM_rank cM_rank 2 (some .int) :: WS0
theorem kM_rank : jCalV yM_rank "TextPipelineModel" cM_rank 2 (some .int) 1 := ⟨q778, (ws0_s (i := 30) (q := (⟨"TextPipelineModel", "rank", "(I)I"⟩, 24)) (by decide +kernel) (by decide +kernel)), q6, q779, by decide +kernel⟩
abbrev yM_weight : MethodName := ⟨"TextPipelineModel", "weight", "(II)I"⟩
abbrev cM_weight : ByteArray := prog_10_method_8_code
abbrev wsM_weight : List Cond := .code yM_weight cM_weight 3 (some .int) :: WS0
theorem kM_weight : jCalV yM_weight "TextPipelineModel" cM_weight 3 (some .int) 2 := ⟨q918, (ws0_s (i := 59) (q := (⟨"TextPipelineModel", "weight", "(II)I"⟩, 24)) (by decide +kernel) (by decide +kernel)), q6, q919, by decide +kernel⟩
abbrev yM_clusterOf : MethodName := ⟨"TextPipelineModel", "clusterOf", "(I)I"⟩
abbrev cM_clusterOf : ByteArray := prog_10_method_9_code
abbrev wsM_clusterOf : List Cond := .code yM_clusterOf cM_clusterOf 2 (some .int) :: WS0
theorem kM_clusterOf : jCalV yM_clusterOf "TextPipelineModel" cM_clusterOf 2 (some .int) 1 := ⟨q826, (ws0_s (i := 41) (q := (⟨"TextPipelineModel", "clusterOf", "(I)I"⟩, 24)) (by decide +kernel) (by decide +kernel)), q6, q827, by decide +kernel⟩
abbrev yM_sideOf : MethodName := ⟨"TextPipelineModel", "sideOf", "(I)I"⟩
abbrev cM_sideOf : ByteArray := prog_10_method_10_code
abbrev wsM_sideOf : List Cond := .code yM_sideOf cM_sideOf 2 (some .int) :: WS0
theorem kM_sideOf : jCalV yM_sideOf "TextPipelineModel" cM_sideOf 2 (some .int) 1 := ⟨q878, (ws0_s (i := 51) (q := (⟨"TextPipelineModel", "sideOf", "(I)I"⟩, 24)) (by decide +kernel) (by decide +kernel)), q6, q879, by decide +kernel⟩
abbrev yM_isLead : MethodName := ⟨"TextPipelineModel", "isLead", "(I)Z"⟩
abbrev cM_isLead : ByteArray := prog_10_method_11_code
abbrev wsM_isLead : List Cond := .code yM_isLead cM_isLead 2 (some .boolean) :: WS0
theorem kM_isLead : jCalV yM_isLead "TextPipelineModel" cM_isLead 2 (some .boolean) 1 := ⟨q798, (ws0_s (i := 35) (q := (⟨"TextPipelineModel", "isLead", "(I)Z"⟩, 24)) (by decide +kernel) (by decide +kernel)), q6, q799, by decide +kernel⟩
abbrev yM_isVowel : MethodName := ⟨"TextPipelineModel", "isVowel", "(I)Z"⟩
abbrev cM_isVowel : ByteArray := prog_10_method_12_code
abbrev wsM_isVowel : List Cond := .code yM_isVowel cM_isVowel 2 (some .boolean) :: WS0
theorem kM_isVowel : jCalV yM_isVowel "TextPipelineModel" cM_isVowel 2 (some .boolean) 1 := ⟨q802, (ws0_s (i := 36) (q := (⟨"TextPipelineModel", "isVowel", "(I)Z"⟩, 24)) (by decide +kernel) (by decide +kernel)), q6, q803, by decide +kernel⟩
abbrev yM_isTail : MethodName := ⟨"TextPipelineModel", "isTail", "(I)Z"⟩
abbrev cM_isTail : ByteArray := prog_10_method_13_code
abbrev wsM_isTail : List Cond := .code yM_isTail cM_isTail 2 (some .boolean) :: WS0
theorem kM_isTail : jCalV yM_isTail "TextPipelineModel" cM_isTail 2 (some .boolean) 1 := ⟨q810, (ws0_s (i := 38) (q := (⟨"TextPipelineModel", "isTail", "(I)Z"⟩, 24)) (by decide +kernel) (by decide +kernel)), q6, q811, by decide +kernel⟩
abbrev yM_isOpen : MethodName := ⟨"TextPipelineModel", "isOpen", "(I)Z"⟩
abbrev cM_isOpen : ByteArray := prog_10_method_14_code
abbrev wsM_isOpen : List Cond := .code yM_isOpen cM_isOpen 2 (some .boolean) :: WS0
theorem kM_isOpen : jCalV yM_isOpen "TextPipelineModel" cM_isOpen 2 (some .boolean) 1 := ⟨q806, (ws0_s (i := 37) (q := (⟨"TextPipelineModel", "isOpen", "(I)Z"⟩, 24)) (by decide +kernel) (by decide +kernel)), q6, q807, by decide +kernel⟩
abbrev yM_isClosed : MethodName := ⟨"TextPipelineModel", "isClosed", "(I)Z"⟩
abbrev cM_isClosed : ByteArray := prog_10_method_15_code
abbrev wsM_isClosed : List Cond := .code yM_isClosed cM_isClosed 2 (some .boolean) :: WS0
theorem kM_isClosed : jCalV yM_isClosed "TextPipelineModel" cM_isClosed 2 (some .boolean) 1 := ⟨q834, (ws0_s (i := 43) (q := (⟨"TextPipelineModel", "isClosed", "(I)Z"⟩, 24)) (by decide +kernel) (by decide +kernel)), q6, q835, by decide +kernel⟩
abbrev yM_type : MethodName := ⟨"TextPipelineModel", "type", "(I)I"⟩
abbrev cM_type : ByteArray := prog_10_method_16_code
abbrev wsM_type : List Cond := .code yM_type cM_type 2 (some .int) :: WS0
theorem kM_type : jCalV yM_type "TextPipelineModel" cM_type 2 (some .int) 1 := ⟨q741, q742, q6, q743, by decide +kernel⟩
abbrev yM_wipe : MethodName := ⟨"TextPipelineModel", "wipe", "()V"⟩
abbrev cM_wipe : ByteArray := prog_10_method_17_code
abbrev wsM_wipe : List Cond := .code yM_wipe cM_wipe 1 none :: WS0
theorem kM_wipe : jCalV yM_wipe "TextPipelineModel" cM_wipe 1 none 0 := ⟨q745, q746, q6, q747, by decide +kernel⟩
abbrev yM_noPlace : MethodName := ⟨"TextPipelineModel", "noPlace", "(II)Z"⟩
abbrev cM_noPlace : ByteArray := prog_10_method_18_code
abbrev wsM_noPlace : List Cond := .code yM_noPlace cM_noPlace 3 (some .boolean) :: WS0
theorem kM_noPlace : jCalV yM_noPlace "TextPipelineModel" cM_noPlace 3 (some .boolean) 2 := ⟨q754, (ws0_s (i := 25) (q := (⟨"TextPipelineModel", "noPlace", "(II)Z"⟩, 24)) (by decide +kernel) (by decide +kernel)), q6, q755, by decide +kernel⟩
abbrev yM_at : MethodName := ⟨"TextPipelineModel", "at", "(I)I"⟩
abbrev cM_at : ByteArray := prog_10_method_19_code
abbrev wsM_at : List Cond := .code yM_at cM_at 2 (some .int) :: WS0
theorem kM_at : jCalV yM_at "TextPipelineModel" cM_at 2 (some .int) 1 := ⟨q749, q750, q6, q751, by decide +kernel⟩
abbrev yM_put : MethodName := ⟨"TextPipelineModel", "put", "(I)V"⟩
abbrev cM_put : ByteArray := prog_10_method_20_code
abbrev wsM_put : List Cond := .code yM_put cM_put 2 none :: WS0
theorem kM_put : jCalV yM_put "TextPipelineModel" cM_put 2 none 1 := ⟨q770, (ws0_s (i := 28) (q := (⟨"TextPipelineModel", "put", "(I)V"⟩, 24)) (by decide +kernel) (by decide +kernel)), q6, q771, by decide +kernel⟩
abbrev yM_putParts : MethodName := ⟨"TextPipelineModel", "putParts", "(I)V"⟩
abbrev cM_putParts : ByteArray := prog_10_method_21_code
abbrev wsM_putParts : List Cond := .code yM_putParts cM_putParts 4 none :: WS0
theorem kM_putParts : jCalV yM_putParts "TextPipelineModel" cM_putParts 4 none 1 := ⟨q766, (ws0_s (i := 27) (q := (⟨"TextPipelineModel", "putParts", "(I)V"⟩, 24)) (by decide +kernel) (by decide +kernel)), q6, q767, by decide +kernel⟩
abbrev yM_rankForm : MethodName := ⟨"TextPipelineModel", "rankForm", "()V"⟩
abbrev cM_rankForm : ByteArray := prog_10_method_22_code
abbrev wsM_rankForm : List Cond := .code yM_rankForm cM_rankForm 5 none :: WS0
theorem kM_rankForm : jCalV yM_rankForm "TextPipelineModel" cM_rankForm 5 none 0 := ⟨q774, (ws0_s (i := 29) (q := (⟨"TextPipelineModel", "rankForm", "()V"⟩, 24)) (by decide +kernel) (by decide +kernel)), q6, q775, by decide +kernel⟩
abbrev yM_partText : MethodName := ⟨"TextPipelineModel", "partText", "()V"⟩
abbrev cM_partText : ByteArray := prog_10_method_23_code
abbrev wsM_partText : List Cond := .code yM_partText cM_partText 2 none :: WS0
theorem kM_partText : jCalV yM_partText "TextPipelineModel" cM_partText 2 none 0 := ⟨q762, (ws0_s (i := 26) (q := (⟨"TextPipelineModel", "partText", "()V"⟩, 24)) (by decide +kernel) (by decide +kernel)), q6, q763, by decide +kernel⟩
abbrev yM_partKept : MethodName := ⟨"TextPipelineModel", "partKept", "(I)V"⟩
abbrev cM_partKept : ByteArray := prog_10_method_24_code
abbrev wsM_partKept : List Cond := .code yM_partKept cM_partKept 3 none :: WS0
theorem kM_partKept : jCalV yM_partKept "TextPipelineModel" cM_partKept 3 none 1 := ⟨q938, (ws0_s (i := 61) (q := (⟨"TextPipelineModel", "partKept", "(I)V"⟩, 24)) (by decide +kernel) (by decide +kernel)), q6, q939, by decide +kernel⟩
abbrev yM_joins : MethodName := ⟨"TextPipelineModel", "joins", "(II)I"⟩
abbrev cM_joins : ByteArray := prog_10_method_25_code
abbrev wsM_joins : List Cond := .code yM_joins cM_joins 5 (some .int) :: WS0
theorem kM_joins : jCalV yM_joins "TextPipelineModel" cM_joins 5 (some .int) 2 := ⟨q794, (ws0_s (i := 34) (q := (⟨"TextPipelineModel", "joins", "(II)I"⟩, 24)) (by decide +kernel) (by decide +kernel)), q6, q795, by decide +kernel⟩
abbrev yM_starter : MethodName := ⟨"TextPipelineModel", "starter", "(I)I"⟩
abbrev cM_starter : ByteArray := prog_10_method_26_code
abbrev wsM_starter : List Cond := .code yM_starter cM_starter 3 (some .int) :: WS0
theorem kM_starter : jCalV yM_starter "TextPipelineModel" cM_starter 3 (some .int) 1 := ⟨q790, (ws0_s (i := 33) (q := (⟨"TextPipelineModel", "starter", "(I)I"⟩, 24)) (by decide +kernel) (by decide +kernel)), q6, q791, by decide +kernel⟩
abbrev yM_isFree : MethodName := ⟨"TextPipelineModel", "isFree", "(II)Z"⟩
abbrev cM_isFree : ByteArray := prog_10_method_27_code
abbrev wsM_isFree : List Cond := .code yM_isFree cM_isFree 5 (some .boolean) :: WS0
theorem kM_isFree : jCalV yM_isFree "TextPipelineModel" cM_isFree 5 (some .boolean) 2 := ⟨q814, (ws0_s (i := 39) (q := (⟨"TextPipelineModel", "isFree", "(II)Z"⟩, 24)) (by decide +kernel) (by decide +kernel)), q6, q815, by decide +kernel⟩
abbrev yM_joinForm : MethodName := ⟨"TextPipelineModel", "joinForm", "()V"⟩
abbrev cM_joinForm : ByteArray := prog_10_method_28_code
abbrev wsM_joinForm : List Cond := .code yM_joinForm cM_joinForm 5 none :: WS0
theorem kM_joinForm : jCalV yM_joinForm "TextPipelineModel" cM_joinForm 5 none 0 := ⟨q786, (ws0_s (i := 32) (q := (⟨"TextPipelineModel", "joinForm", "()V"⟩, 24)) (by decide +kernel) (by decide +kernel)), q6, q787, by decide +kernel⟩
abbrev yM_bring : MethodName := ⟨"TextPipelineModel", "bring", "(Z)I"⟩
abbrev cM_bring : ByteArray := prog_10_method_29_code
abbrev wsM_bring : List Cond := .code yM_bring cM_bring 3 (some .int) :: WS0
theorem kM_bring : jCalV yM_bring "TextPipelineModel" cM_bring 3 (some .int) 1 := ⟨q757, q758, q6, q759, by decide +kernel⟩
abbrev yM_pictureBefore : MethodName := ⟨"TextPipelineModel", "pictureBefore", "(I)Z"⟩
abbrev cM_pictureBefore : ByteArray := prog_10_method_30_code
abbrev wsM_pictureBefore : List Cond := .code yM_pictureBefore cM_pictureBefore 3 (some .boolean) :: WS0
theorem kM_pictureBefore : jCalV yM_pictureBefore "TextPipelineModel" cM_pictureBefore 3 (some .boolean) 1 := ⟨q838, (ws0_s (i := 44) (q := (⟨"TextPipelineModel", "pictureBefore", "(I)Z"⟩, 24)) (by decide +kernel) (by decide +kernel)), q6, q839, by decide +kernel⟩
abbrev yM_oddRegions : MethodName := ⟨"TextPipelineModel", "oddRegions", "(I)Z"⟩
abbrev cM_oddRegions : ByteArray := prog_10_method_31_code
abbrev wsM_oddRegions : List Cond := .code yM_oddRegions cM_oddRegions 3 (some .boolean) :: WS0
theorem kM_oddRegions : jCalV yM_oddRegions "TextPipelineModel" cM_oddRegions 3 (some .boolean) 1 := ⟨q842, (ws0_s (i := 45) (q := (⟨"TextPipelineModel", "oddRegions", "(I)Z"⟩, 24)) (by decide +kernel) (by decide +kernel)), q6, q843, by decide +kernel⟩
abbrev yM_syllabic : MethodName := ⟨"TextPipelineModel", "syllabic", "(II)Z"⟩
abbrev cM_syllabic : ByteArray := prog_10_method_32_code
abbrev wsM_syllabic : List Cond := .code yM_syllabic cM_syllabic 3 (some .boolean) :: WS0
theorem kM_syllabic : jCalV yM_syllabic "TextPipelineModel" cM_syllabic 3 (some .boolean) 2 := ⟨q830, (ws0_s (i := 42) (q := (⟨"TextPipelineModel", "syllabic", "(II)Z"⟩, 24)) (by decide +kernel) (by decide +kernel)), q6, q831, by decide +kernel⟩
abbrev yM_ends : MethodName := ⟨"TextPipelineModel", "ends", "(I)Z"⟩
abbrev cM_ends : ByteArray := prog_10_method_33_code
abbrev wsM_ends : List Cond := .code yM_ends cM_ends 5 (some .boolean) :: WS0
theorem kM_ends : jCalV yM_ends "TextPipelineModel" cM_ends 5 (some .boolean) 1 := ⟨q822, (ws0_s (i := 40) (q := (⟨"TextPipelineModel", "ends", "(I)Z"⟩, 24)) (by decide +kernel) (by decide +kernel)), q6, q823, by decide +kernel⟩
abbrev yM_cluster : MethodName := ⟨"TextPipelineModel", "cluster", "(I)Z"⟩
abbrev cM_cluster : ByteArray := prog_10_method_34_code
abbrev wsM_cluster : List Cond := .code yM_cluster cM_cluster 2 (some .boolean) :: WS0
theorem kM_cluster : jCalV yM_cluster "TextPipelineModel" cM_cluster 2 (some .boolean) 1 := ⟨q817, q818, q6, q819, by decide +kernel⟩
abbrev yM_clusters : MethodName := ⟨"TextPipelineModel", "clusters", "()I"⟩
abbrev cM_clusters : ByteArray := prog_10_method_35_code
abbrev wsM_clusters : List Cond := .code yM_clusters cM_clusters 3 (some .int) :: WS0
theorem kM_clusters : jCalV yM_clusters "TextPipelineModel" cM_clusters 3 (some .int) 0 := ⟨q845, q846, q6, q847, by decide +kernel⟩
abbrev yM_classLines : MethodName := ⟨"TextPipelineModel", "classLines", "()V"⟩
abbrev cM_classLines : ByteArray := prog_10_method_36_code
abbrev wsM_classLines : List Cond := .code yM_classLines cM_classLines 3 none :: WS0
theorem kM_classLines : jCalV yM_classLines "TextPipelineModel" cM_classLines 3 none 0 := ⟨q854, (ws0_s (i := 46) (q := (⟨"TextPipelineModel", "classLines", "()V"⟩, 24)) (by decide +kernel) (by decide +kernel)), q6, q855, by decide +kernel⟩
abbrev yM_overSpaces : MethodName := ⟨"TextPipelineModel", "overSpaces", "(I)I"⟩
abbrev cM_overSpaces : ByteArray := prog_10_method_37_code
abbrev wsM_overSpaces : List Cond := .code yM_overSpaces cM_overSpaces 3 (some .int) :: WS0
theorem kM_overSpaces : jCalV yM_overSpaces "TextPipelineModel" cM_overSpaces 3 (some .int) 1 := ⟨q858, (ws0_s (i := 47) (q := (⟨"TextPipelineModel", "overSpaces", "(I)I"⟩, 24)) (by decide +kernel) (by decide +kernel)), q6, q859, by decide +kernel⟩
abbrev yM_may : MethodName := ⟨"TextPipelineModel", "may", "(II)Z"⟩
abbrev cM_may : ByteArray := prog_10_method_38_code
abbrev wsM_may : List Cond := .code yM_may cM_may 6 (some .boolean) :: WS0
theorem kM_may : jCalV yM_may "TextPipelineModel" cM_may 6 (some .boolean) 2 := ⟨q862, (ws0_s (i := 48) (q := (⟨"TextPipelineModel", "may", "(II)Z"⟩, 24)) (by decide +kernel) (by decide +kernel)), q6, q863, by decide +kernel⟩
abbrev yM_line : MethodName := ⟨"TextPipelineModel", "line", "(I)I"⟩
abbrev cM_line : ByteArray := prog_10_method_39_code
abbrev wsM_line : List Cond := .code yM_line cM_line 6 (some .int) :: WS0
theorem kM_line : jCalV yM_line "TextPipelineModel" cM_line 6 (some .int) 1 := ⟨q849, q850, q6, q851, by decide +kernel⟩
abbrev yM_baseOf : MethodName := ⟨"TextPipelineModel", "baseOf", "(I)I"⟩
abbrev cM_baseOf : ByteArray := prog_10_method_40_code
abbrev wsM_baseOf : List Cond := .code yM_baseOf cM_baseOf 4 (some .int) :: WS0
theorem kM_baseOf : jCalV yM_baseOf "TextPipelineModel" cM_baseOf 4 (some .int) 1 := ⟨q874, (ws0_s (i := 50) (q := (⟨"TextPipelineModel", "baseOf", "(I)I"⟩, 24)) (by decide +kernel) (by decide +kernel)), q6, q875, by decide +kernel⟩
abbrev yM_nearest : MethodName := ⟨"TextPipelineModel", "nearest", "(I)I"⟩
abbrev cM_nearest : ByteArray := prog_10_method_41_code
abbrev wsM_nearest : List Cond := .code yM_nearest cM_nearest 3 (some .int) :: WS0
theorem kM_nearest : jCalV yM_nearest "TextPipelineModel" cM_nearest 3 (some .int) 1 := ⟨q886, (ws0_s (i := 53) (q := (⟨"TextPipelineModel", "nearest", "(I)I"⟩, 24)) (by decide +kernel) (by decide +kernel)), q6, q887, by decide +kernel⟩
abbrev yM_weaken : MethodName := ⟨"TextPipelineModel", "weaken", "()V"⟩
abbrev cM_weaken : ByteArray := prog_10_method_42_code
abbrev wsM_weaken : List Cond := .code yM_weaken cM_weaken 5 none :: WS0
theorem kM_weaken : jCalV yM_weaken "TextPipelineModel" cM_weaken 5 none 0 := ⟨q882, (ws0_s (i := 52) (q := (⟨"TextPipelineModel", "weaken", "()V"⟩, 24)) (by decide +kernel) (by decide +kernel)), q6, q883, by decide +kernel⟩
abbrev yM_units : MethodName := ⟨"TextPipelineModel", "units", "()V"⟩
abbrev cM_units : ByteArray := prog_10_method_43_code
abbrev wsM_units : List Cond := .code yM_units cM_units 5 none :: WS0
theorem kM_units : jCalV yM_units "TextPipelineModel" cM_units 5 none 0 := ⟨q890, (ws0_s (i := 54) (q := (⟨"TextPipelineModel", "units", "()V"⟩, 24)) (by decide +kernel) (by decide +kernel)), q6, q891, by decide +kernel⟩
abbrev yM_neutral : MethodName := ⟨"TextPipelineModel", "neutral", "(I)Z"⟩
abbrev cM_neutral : ByteArray := prog_10_method_44_code
abbrev wsM_neutral : List Cond := .code yM_neutral cM_neutral 2 (some .boolean) :: WS0
theorem kM_neutral : jCalV yM_neutral "TextPipelineModel" cM_neutral 2 (some .boolean) 1 := ⟨q898, (ws0_s (i := 56) (q := (⟨"TextPipelineModel", "neutral", "(I)Z"⟩, 24)) (by decide +kernel) (by decide +kernel)), q6, q899, by decide +kernel⟩
abbrev yM_neutrals : MethodName := ⟨"TextPipelineModel", "neutrals", "(I)V"⟩
abbrev cM_neutrals : ByteArray := prog_10_method_45_code
abbrev wsM_neutrals : List Cond := .code yM_neutrals cM_neutrals 7 none :: WS0
theorem kM_neutrals : jCalV yM_neutrals "TextPipelineModel" cM_neutrals 7 none 1 := ⟨q894, (ws0_s (i := 55) (q := (⟨"TextPipelineModel", "neutrals", "(I)V"⟩, 24)) (by decide +kernel) (by decide +kernel)), q6, q895, by decide +kernel⟩
abbrev yM_findLevels : MethodName := ⟨"TextPipelineModel", "findLevels", "(I)V"⟩
abbrev cM_findLevels : ByteArray := prog_10_method_46_code
abbrev wsM_findLevels : List Cond := .code yM_findLevels cM_findLevels 6 none :: WS0
theorem kM_findLevels : jCalV yM_findLevels "TextPipelineModel" cM_findLevels 6 none 1 := ⟨q870, (ws0_s (i := 49) (q := (⟨"TextPipelineModel", "findLevels", "(I)V"⟩, 24)) (by decide +kernel) (by decide +kernel)), q6, q871, by decide +kernel⟩
abbrev yM_level : MethodName := ⟨"TextPipelineModel", "level", "(II)I"⟩
abbrev cM_level : ByteArray := prog_10_method_47_code
abbrev wsM_level : List Cond := .code yM_level cM_level 3 (some .int) :: WS0
theorem kM_level : jCalV yM_level "TextPipelineModel" cM_level 3 (some .int) 2 := ⟨q865, q866, q6, q867, by decide +kernel⟩
abbrev yM_turnRound : MethodName := ⟨"TextPipelineModel", "turnRound", "(II)V"⟩
abbrev cM_turnRound : ByteArray := prog_10_method_48_code
abbrev wsM_turnRound : List Cond := .code yM_turnRound cM_turnRound 6 none :: WS0
theorem kM_turnRound : jCalV yM_turnRound "TextPipelineModel" cM_turnRound 6 none 2 := ⟨q906, (ws0_s (i := 57) (q := (⟨"TextPipelineModel", "turnRound", "(II)V"⟩, 24)) (by decide +kernel) (by decide +kernel)), q6, q907, by decide +kernel⟩
abbrev yM_order : MethodName := ⟨"TextPipelineModel", "order", "(II)I"⟩
abbrev cM_order : ByteArray := prog_10_method_49_code
abbrev wsM_order : List Cond := .code yM_order cM_order 6 (some .int) :: WS0
theorem kM_order : jCalV yM_order "TextPipelineModel" cM_order 6 (some .int) 2 := ⟨q901, q902, q6, q903, by decide +kernel⟩
abbrev yM_findKey : MethodName := ⟨"TextPipelineModel", "findKey", "()V"⟩
abbrev cM_findKey : ByteArray := prog_10_method_50_code
abbrev wsM_findKey : List Cond := .code yM_findKey cM_findKey 4 none :: WS0
theorem kM_findKey : jCalV yM_findKey "TextPipelineModel" cM_findKey 4 none 0 := ⟨q914, (ws0_s (i := 58) (q := (⟨"TextPipelineModel", "findKey", "()V"⟩, 24)) (by decide +kernel) (by decide +kernel)), q6, q915, by decide +kernel⟩
abbrev yM_key : MethodName := ⟨"TextPipelineModel", "key", "()I"⟩
abbrev cM_key : ByteArray := prog_10_method_51_code
abbrev wsM_key : List Cond := .code yM_key cM_key 1 (some .int) :: WS0
theorem kM_key : jCalV yM_key "TextPipelineModel" cM_key 1 (some .int) 0 := ⟨q909, q910, q6, q911, by decide +kernel⟩
abbrev yM_keyAt : MethodName := ⟨"TextPipelineModel", "keyAt", "(I)I"⟩
abbrev cM_keyAt : ByteArray := prog_10_method_52_code
abbrev wsM_keyAt : List Cond := .code yM_keyAt cM_keyAt 2 (some .int) :: WS0
theorem kM_keyAt : jCalV yM_keyAt "TextPipelineModel" cM_keyAt 2 (some .int) 1 := ⟨q921, q922, q6, q923, by decide +kernel⟩
abbrev yM_noSlot : MethodName := ⟨"TextPipelineModel", "noSlot", "(I)Z"⟩
abbrev cM_noSlot : ByteArray := prog_10_method_53_code
abbrev wsM_noSlot : List Cond := .code yM_noSlot cM_noSlot 2 (some .boolean) :: WS0
theorem kM_noSlot : jCalV yM_noSlot "TextPipelineModel" cM_noSlot 2 (some .boolean) 1 := ⟨q930, (ws0_s (i := 60) (q := (⟨"TextPipelineModel", "noSlot", "(I)Z"⟩, 24)) (by decide +kernel) (by decide +kernel)), q6, q931, by decide +kernel⟩
abbrev yM_keep : MethodName := ⟨"TextPipelineModel", "keep", "(I)V"⟩
abbrev cM_keep : ByteArray := prog_10_method_54_code
abbrev wsM_keep : List Cond := .code yM_keep cM_keep 3 none :: WS0
theorem kM_keep : jCalV yM_keep "TextPipelineModel" cM_keep 3 none 1 := ⟨q925, q926, q6, q927, by decide +kernel⟩
abbrev yM_compare : MethodName := ⟨"TextPipelineModel", "compare", "(I)I"⟩
abbrev cM_compare : ByteArray := prog_10_method_55_code
abbrev wsM_compare : List Cond := .code yM_compare cM_compare 3 (some .int) :: WS0
theorem kM_compare : jCalV yM_compare "TextPipelineModel" cM_compare 3 (some .int) 1 := ⟨q933, q934, q6, q935, by decide +kernel⟩
abbrev yM_same : MethodName := ⟨"TextPipelineModel", "same", "(I)Z"⟩
abbrev cM_same : ByteArray := prog_10_method_56_code
abbrev wsM_same : List Cond := .code yM_same cM_same 4 (some .boolean) :: WS0
theorem kM_same : jCalV yM_same "TextPipelineModel" cM_same 4 (some .boolean) 1 := ⟨q941, q942, q6, q943, by decide +kernel⟩
