set_option maxRecDepth 100000 in
theorem w_0 : mp_w (Jvm.Cond.initialized "ScriptDeskLaw") := ⟨List.mem_append_right _ (List.mem_of_getElem? (i := 0) rfl), rfl⟩
set_option maxRecDepth 100000 in
theorem w_1 : mp_w (Jvm.Cond.initialized "ScriptDesk") := ⟨List.mem_append_right _ (List.mem_of_getElem? (i := 1) rfl), rfl⟩
set_option maxRecDepth 100000 in
theorem w_2 : mp_w (Jvm.Cond.initialized "ScriptDesk$Sum") := ⟨List.mem_append_right _ (List.mem_of_getElem? (i := 2) rfl), rfl⟩
set_option maxRecDepth 100000 in
theorem w_3 : mp_w (Jvm.Cond.initialized "ScriptDesk$Sha256") := ⟨List.mem_append_right _ (List.mem_of_getElem? (i := 3) rfl), rfl⟩
set_option maxRecDepth 100000 in
theorem w_4 : mp_w (Jvm.Cond.initialized "java/lang/Math") := ⟨List.mem_append_right _ (List.mem_of_getElem? (i := 4) rfl), rfl⟩
set_option maxRecDepth 100000 in
theorem w_5 : mp_w (Jvm.Cond.initialized "ScriptDesk$Ripemd160") := ⟨List.mem_append_right _ (List.mem_of_getElem? (i := 5) rfl), rfl⟩
set_option maxRecDepth 100000 in
theorem w_6 : mp_w (Jvm.Cond.initialized "ScriptDesk$Machine") := ⟨List.mem_append_right _ (List.mem_of_getElem? (i := 6) rfl), rfl⟩
set_option maxRecDepth 100000 in
theorem w_7 : mp_w (Jvm.Cond.initialized "ScriptDesk$Stack") := ⟨List.mem_append_right _ (List.mem_of_getElem? (i := 7) rfl), rfl⟩
set_option maxRecDepth 100000 in
theorem w_8 : mp_w (Jvm.Cond.initialized "ScriptDesk$Thing") := ⟨List.mem_append_right _ (List.mem_of_getElem? (i := 8) rfl), rfl⟩
set_option maxRecDepth 100000 in
theorem w_9 : mp_w (Jvm.Cond.initialized "ScriptDesk$Branches") := ⟨List.mem_append_right _ (List.mem_of_getElem? (i := 9) rfl), rfl⟩
set_option maxRecDepth 100000 in
theorem w_10 : mp_w (Jvm.Cond.initialized "java/lang/Long") := ⟨List.mem_append_right _ (List.mem_of_getElem? (i := 10) rfl), rfl⟩
set_option maxRecDepth 100000 in
theorem w_11 : mp_w (Jvm.Cond.initialized "java/lang/Integer") := ⟨List.mem_append_right _ (List.mem_of_getElem? (i := 11) rfl), rfl⟩
set_option maxRecDepth 100000 in
theorem w_12 : mp_w (Jvm.Cond.initialized "ScriptDeskModel") := ⟨List.mem_append_right _ (List.mem_of_getElem? (i := 12) rfl), rfl⟩
set_option maxRecDepth 100000 in
theorem w_13 : mp_w (Jvm.Cond.initialized "java/lang/Throwable") := ⟨List.mem_append_right _ (List.mem_of_getElem? (i := 13) rfl), rfl⟩
set_option maxRecDepth 100000 in
theorem w_14 : mp_w (Jvm.Cond.initialized "java/lang/Exception") := ⟨List.mem_append_right _ (List.mem_of_getElem? (i := 14) rfl), rfl⟩
set_option maxRecDepth 100000 in
theorem w_15 : mp_w (Jvm.Cond.initialized "java/lang/RuntimeException") := ⟨List.mem_append_right _ (List.mem_of_getElem? (i := 15) rfl), rfl⟩
set_option maxRecDepth 100000 in
theorem w_16 : mp_w (Jvm.Cond.initialized "java/lang/IllegalStateException") := ⟨List.mem_append_right _ (List.mem_of_getElem? (i := 16) rfl), rfl⟩
set_option maxRecDepth 100000 in
theorem w_17 : mp_w (Jvm.Cond.initialized "java/lang/IllegalArgumentException") := ⟨List.mem_append_right _ (List.mem_of_getElem? (i := 17) rfl), rfl⟩
set_option maxRecDepth 100000 in
theorem w_18 : mp_w (Jvm.Cond.initialized "ScriptDesk$Code") := ⟨List.mem_append_right _ (List.mem_of_getElem? (i := 18) rfl), rfl⟩
set_option maxRecDepth 100000 in
theorem w_19 : mp_w (Jvm.Cond.initialized "java/util/Arrays") := ⟨List.mem_append_right _ (List.mem_of_getElem? (i := 19) rfl), rfl⟩
set_option maxRecDepth 100000 in
theorem w_20 : mp_w (Jvm.Cond.initialized "java/lang/AbstractStringBuilder") := ⟨List.mem_append_right _ (List.mem_of_getElem? (i := 20) rfl), rfl⟩
set_option maxRecDepth 100000 in
theorem w_21 : mp_w (Jvm.Cond.initialized "java/lang/StringBuilder") := ⟨List.mem_append_right _ (List.mem_of_getElem? (i := 21) rfl), rfl⟩
set_option maxRecDepth 100000 in
theorem w_22 : mp_w (Jvm.Cond.initialized "java/lang/String") := ⟨List.mem_append_right _ (List.mem_of_getElem? (i := 22) rfl), rfl⟩
set_option maxRecDepth 100000 in
theorem w_23 : mp_w (Jvm.Cond.initialized "java/lang/StringUTF16") := ⟨List.mem_append_right _ (List.mem_of_getElem? (i := 23) rfl), rfl⟩
set_option maxRecDepth 100000 in
theorem w_24 : mp_w (Jvm.Cond.initialized "jdk/internal/util/ArraysSupport") := ⟨List.mem_append_right _ (List.mem_of_getElem? (i := 24) rfl), rfl⟩
set_option maxRecDepth 100000 in
theorem w_25 : mp_w (Jvm.Cond.initialized "java/lang/System") := ⟨List.mem_append_right _ (List.mem_of_getElem? (i := 25) rfl), rfl⟩
set_option maxRecDepth 100000 in
theorem w_26 : mp_w (Jvm.Cond.initialized "jdk/internal/util/Preconditions") := ⟨List.mem_append_right _ (List.mem_of_getElem? (i := 26) rfl), rfl⟩
set_option maxRecDepth 100000 in
theorem w_27 : mp_w (Jvm.Cond.initialized "java/lang/StringLatin1") := ⟨List.mem_append_right _ (List.mem_of_getElem? (i := 27) rfl), rfl⟩
set_option maxRecDepth 100000 in
theorem w_28 : mp_w (Jvm.Cond.initialized "java/lang/IndexOutOfBoundsException") := ⟨List.mem_append_right _ (List.mem_of_getElem? (i := 28) rfl), rfl⟩
set_option maxRecDepth 100000 in
theorem w_29 : mp_w (Jvm.Cond.initialized "java/lang/ArithmeticException") := ⟨List.mem_append_right _ (List.mem_of_getElem? (i := 29) rfl), rfl⟩
set_option maxRecDepth 100000 in
theorem w_30 : mp_w (Jvm.Cond.classLink "ScriptDeskLaw" (8 : Nat) "ScriptDesk") := ⟨List.mem_append_right _ (List.mem_of_getElem? (i := 30) rfl), rfl⟩
set_option maxRecDepth 100000 in
theorem w_31 : mp_w (Jvm.Cond.instantiable "ScriptDesk" (6 : Nat)) := ⟨List.mem_append_right _ (List.mem_of_getElem? (i := 31) rfl), rfl⟩
set_option maxRecDepth 100000 in
theorem w_32 : mp_w (Jvm.Cond.methodLink "ScriptDeskLaw" (44 : Nat) ({ cls := "ScriptDesk", name := "<init>", desc := "()V" } : Jvm.MethodName)) := ⟨List.mem_append_right _ (List.mem_of_getElem? (i := 32) rfl), rfl⟩
set_option maxRecDepth 100000 in
theorem w_33 : mp_w (Jvm.Cond.instanceMethod ({ cls := "ScriptDesk", name := "<init>", desc := "()V" } : Jvm.MethodName)) := ⟨List.mem_append_right _ (List.mem_of_getElem? (i := 33) rfl), rfl⟩
set_option maxRecDepth 100000 in
theorem w_34 : mp_w (Jvm.Cond.code ({ cls := "ScriptDesk", name := "<init>", desc := "()V" } : Jvm.MethodName) prog_1_method_1_code (1 : Nat) (Option.none : Option Jvm.ClassFile.FieldType)) := ⟨List.mem_append_right _ (List.mem_of_getElem? (i := 34) rfl), rfl⟩
set_option maxRecDepth 100000 in
theorem w_35 : mp_w (Jvm.Cond.methodLink "ScriptDesk" (1 : Nat) ({ cls := "java/lang/Object", name := "<init>", desc := "()V" } : Jvm.MethodName)) := ⟨List.mem_append_right _ (List.mem_of_getElem? (i := 35) rfl), rfl⟩
set_option maxRecDepth 100000 in
theorem w_36 : mp_w (Jvm.Cond.instanceMethod ({ cls := "java/lang/Object", name := "<init>", desc := "()V" } : Jvm.MethodName)) := ⟨List.mem_append_right _ (List.mem_of_getElem? (i := 36) rfl), rfl⟩
set_option maxRecDepth 100000 in
theorem w_37 : mp_w (Jvm.Cond.code ({ cls := "java/lang/Object", name := "<init>", desc := "()V" } : Jvm.MethodName) object_method_1_code (1 : Nat) (Option.none : Option Jvm.ClassFile.FieldType)) := ⟨List.mem_append_right _ (List.mem_of_getElem? (i := 37) rfl), rfl⟩
set_option maxRecDepth 100000 in
theorem w_38 : mp_w (Jvm.Cond.classLink "ScriptDesk" (17 : Nat) "ScriptDesk$Sha256") := ⟨List.mem_append_right _ (List.mem_of_getElem? (i := 38) rfl), rfl⟩
set_option maxRecDepth 100000 in
theorem w_39 : mp_w (Jvm.Cond.instantiable "ScriptDesk$Sha256" (5 : Nat)) := ⟨List.mem_append_right _ (List.mem_of_getElem? (i := 39) rfl), rfl⟩
set_option maxRecDepth 100000 in
theorem w_40 : mp_w (Jvm.Cond.methodLink "ScriptDesk" (19 : Nat) ({ cls := "ScriptDesk$Sha256", name := "<init>", desc := "()V" } : Jvm.MethodName)) := ⟨List.mem_append_right _ (List.mem_of_getElem? (i := 40) rfl), rfl⟩
set_option maxRecDepth 100000 in
theorem w_41 : mp_w (Jvm.Cond.instanceMethod ({ cls := "ScriptDesk$Sha256", name := "<init>", desc := "()V" } : Jvm.MethodName)) := ⟨List.mem_append_right _ (List.mem_of_getElem? (i := 41) rfl), rfl⟩
set_option maxRecDepth 100000 in
theorem w_42 : mp_w (Jvm.Cond.code ({ cls := "ScriptDesk$Sha256", name := "<init>", desc := "()V" } : Jvm.MethodName) prog_6_method_1_code (1 : Nat) (Option.none : Option Jvm.ClassFile.FieldType)) := ⟨List.mem_append_right _ (List.mem_of_getElem? (i := 42) rfl), rfl⟩
set_option maxRecDepth 100000 in
theorem w_43 : mp_w (Jvm.Cond.fieldLink "ScriptDesk$Sha256" (1 : Nat) "ScriptDesk$Sha256" "START" "[I") := ⟨List.mem_append_right _ (List.mem_of_getElem? (i := 43) rfl), rfl⟩
set_option maxRecDepth 100000 in
theorem w_45 : mp_w (Jvm.Cond.methodLink "ScriptDesk$Sha256" (7 : Nat) ({ cls := "ScriptDesk$Sum", name := "<init>", desc := "([IIZ)V" } : Jvm.MethodName)) := ⟨List.mem_append_right _ (List.mem_of_getElem? (i := 45) rfl), rfl⟩
set_option maxRecDepth 100000 in
theorem w_46 : mp_w (Jvm.Cond.instanceMethod ({ cls := "ScriptDesk$Sum", name := "<init>", desc := "([IIZ)V" } : Jvm.MethodName)) := ⟨List.mem_append_right _ (List.mem_of_getElem? (i := 46) rfl), rfl⟩
set_option maxRecDepth 100000 in
theorem w_47 : mp_w (Jvm.Cond.code ({ cls := "ScriptDesk$Sum", name := "<init>", desc := "([IIZ)V" } : Jvm.MethodName) prog_8_method_1_code (4 : Nat) (Option.none : Option Jvm.ClassFile.FieldType)) := ⟨List.mem_append_right _ (List.mem_of_getElem? (i := 47) rfl), rfl⟩
set_option maxRecDepth 100000 in
theorem w_48 : mp_w (Jvm.Cond.methodLink "ScriptDesk$Sum" (1 : Nat) ({ cls := "java/lang/Object", name := "<init>", desc := "()V" } : Jvm.MethodName)) := ⟨List.mem_append_right _ (List.mem_of_getElem? (i := 48) rfl), rfl⟩
set_option maxRecDepth 100000 in
theorem w_49 : mp_w (Jvm.Cond.methodLink "ScriptDesk$Sum" (20 : Nat) ({ cls := "java/lang/Math", name := "max", desc := "(II)I" } : Jvm.MethodName)) := ⟨List.mem_append_right _ (List.mem_of_getElem? (i := 49) rfl), rfl⟩
set_option maxRecDepth 100000 in
theorem w_50 : mp_w (Jvm.Cond.static ({ cls := "java/lang/Math", name := "max", desc := "(II)I" } : Jvm.MethodName)) := ⟨List.mem_append_right _ (List.mem_of_getElem? (i := 50) rfl), rfl⟩
set_option maxRecDepth 100000 in
theorem w_51 : mp_w (Jvm.Cond.code ({ cls := "java/lang/Math", name := "max", desc := "(II)I" } : Jvm.MethodName) prog_21_method_65_code (2 : Nat) (Option.some Jvm.ClassFile.FieldType.int)) := ⟨List.mem_append_right _ (List.mem_of_getElem? (i := 51) rfl), rfl⟩
set_option maxRecDepth 100000 in
theorem w_52 : mp_w (Jvm.Cond.fieldLink "ScriptDesk$Sha256" (13 : Nat) "ScriptDesk$Sha256" "turning" "[I") := ⟨List.mem_append_right _ (List.mem_of_getElem? (i := 52) rfl), rfl⟩
set_option maxRecDepth 100000 in
theorem w_53 : mp_w (Jvm.Cond.fieldLink "ScriptDesk$Sum" (17 : Nat) "ScriptDesk$Sum" "state" "[I") := ⟨List.mem_append_right _ (List.mem_of_getElem? (i := 53) rfl), rfl⟩
set_option maxRecDepth 100000 in
theorem w_54 : mp_w (Jvm.Cond.fieldLink "ScriptDesk$Ripemd160" (19 : Nat) "ScriptDesk$Ripemd160" "state" "[I") := ⟨List.mem_append_right _ (List.mem_of_getElem? (i := 54) rfl), rfl⟩
set_option maxRecDepth 100000 in
theorem w_55 : mp_w (Jvm.Cond.sameField "ScriptDesk$Ripemd160" "ScriptDesk$Sum" "state" "[I") := ⟨List.mem_append_right _ (List.mem_of_getElem? (i := 55) rfl), rfl⟩
set_option maxRecDepth 100000 in
theorem w_56 : mp_w (Jvm.Cond.fieldLink "ScriptDesk$Sha256" (20 : Nat) "ScriptDesk$Sha256" "state" "[I") := ⟨List.mem_append_right _ (List.mem_of_getElem? (i := 56) rfl), rfl⟩
set_option maxRecDepth 100000 in
theorem w_57 : mp_w (Jvm.Cond.sameField "ScriptDesk$Sha256" "ScriptDesk$Sum" "state" "[I") := ⟨List.mem_append_right _ (List.mem_of_getElem? (i := 57) rfl), rfl⟩
set_option maxRecDepth 100000 in
theorem w_58 : mp_w (Jvm.Cond.fieldLink "ScriptDesk$Sum" (26 : Nat) "ScriptDesk$Sum" "words" "[I") := ⟨List.mem_append_right _ (List.mem_of_getElem? (i := 58) rfl), rfl⟩
set_option maxRecDepth 100000 in
theorem w_59 : mp_w (Jvm.Cond.fieldLink "ScriptDesk$Sha256" (32 : Nat) "ScriptDesk$Sha256" "words" "[I") := ⟨List.mem_append_right _ (List.mem_of_getElem? (i := 59) rfl), rfl⟩
set_option maxRecDepth 100000 in
theorem w_60 : mp_w (Jvm.Cond.sameField "ScriptDesk$Sha256" "ScriptDesk$Sum" "words" "[I") := ⟨List.mem_append_right _ (List.mem_of_getElem? (i := 60) rfl), rfl⟩
set_option maxRecDepth 100000 in
theorem w_61 : mp_w (Jvm.Cond.fieldLink "ScriptDesk$Ripemd160" (28 : Nat) "ScriptDesk$Ripemd160" "words" "[I") := ⟨List.mem_append_right _ (List.mem_of_getElem? (i := 61) rfl), rfl⟩
set_option maxRecDepth 100000 in
theorem w_62 : mp_w (Jvm.Cond.sameField "ScriptDesk$Ripemd160" "ScriptDesk$Sum" "words" "[I") := ⟨List.mem_append_right _ (List.mem_of_getElem? (i := 62) rfl), rfl⟩
set_option maxRecDepth 100000 in
theorem w_63 : mp_w (Jvm.Cond.fieldLink "ScriptDesk$Sum" (7 : Nat) "ScriptDesk$Sum" "start" "[I") := ⟨List.mem_append_right _ (List.mem_of_getElem? (i := 63) rfl), rfl⟩
set_option maxRecDepth 100000 in
theorem w_64 : mp_w (Jvm.Cond.fieldLink "ScriptDesk$Sum" (13 : Nat) "ScriptDesk$Sum" "highFirst" "Z") := ⟨List.mem_append_right _ (List.mem_of_getElem? (i := 64) rfl), rfl⟩
set_option maxRecDepth 100000 in
theorem w_65 : mp_w (Jvm.Cond.laysFinal "ScriptDesk$Sha256" "ScriptDesk$Sha256" "turning" "[I") := ⟨List.mem_append_right _ (List.mem_of_getElem? (i := 65) rfl), rfl⟩
set_option maxRecDepth 100000 in
theorem w_67 : mp_w (Jvm.Cond.laysFinal "ScriptDesk$Sha256" "ScriptDesk$Sum" "state" "[I") := ⟨List.mem_append_right _ (List.mem_of_getElem? (i := 67) rfl), rfl⟩
set_option maxRecDepth 100000 in
theorem w_69 : mp_w (Jvm.Cond.laysFinal "ScriptDesk$Sha256" "ScriptDesk$Sum" "words" "[I") := ⟨List.mem_append_right _ (List.mem_of_getElem? (i := 69) rfl), rfl⟩
set_option maxRecDepth 100000 in
theorem w_71 : mp_w (Jvm.Cond.laysFinal "ScriptDesk$Sha256" "ScriptDesk$Sum" "start" "[I") := ⟨List.mem_append_right _ (List.mem_of_getElem? (i := 71) rfl), rfl⟩
set_option maxRecDepth 100000 in
theorem w_73 : mp_w (Jvm.Cond.laysFinal "ScriptDesk$Sha256" "ScriptDesk$Sum" "highFirst" "Z") := ⟨List.mem_append_right _ (List.mem_of_getElem? (i := 73) rfl), rfl⟩
set_option maxRecDepth 100000 in
theorem w_75 : mp_w (Jvm.Cond.superclass "ScriptDesk$Sha256" "ScriptDesk$Sum") := ⟨List.mem_append_right _ (List.mem_of_getElem? (i := 75) rfl), rfl⟩
set_option maxRecDepth 100000 in
theorem w_76 : mp_w (Jvm.Cond.arrayClass Jvm.ClassFile.FieldType.byte) := ⟨List.mem_append_right _ (List.mem_of_getElem? (i := 76) rfl), rfl⟩
set_option maxRecDepth 100000 in
theorem w_77 : mp_w (Jvm.Cond.arrayClass Jvm.ClassFile.FieldType.int) := ⟨List.mem_append_right _ (List.mem_of_getElem? (i := 77) rfl), rfl⟩
set_option maxRecDepth 100000 in
theorem w_78 : mp_w (Jvm.Cond.classLink "ScriptDesk" (24 : Nat) "ScriptDesk$Ripemd160") := ⟨List.mem_append_right _ (List.mem_of_getElem? (i := 78) rfl), rfl⟩
set_option maxRecDepth 100000 in
theorem w_79 : mp_w (Jvm.Cond.instantiable "ScriptDesk$Ripemd160" (6 : Nat)) := ⟨List.mem_append_right _ (List.mem_of_getElem? (i := 79) rfl), rfl⟩
set_option maxRecDepth 100000 in
theorem w_80 : mp_w (Jvm.Cond.methodLink "ScriptDesk" (26 : Nat) ({ cls := "ScriptDesk$Ripemd160", name := "<init>", desc := "()V" } : Jvm.MethodName)) := ⟨List.mem_append_right _ (List.mem_of_getElem? (i := 80) rfl), rfl⟩
set_option maxRecDepth 100000 in
theorem w_81 : mp_w (Jvm.Cond.instanceMethod ({ cls := "ScriptDesk$Ripemd160", name := "<init>", desc := "()V" } : Jvm.MethodName)) := ⟨List.mem_append_right _ (List.mem_of_getElem? (i := 81) rfl), rfl⟩
set_option maxRecDepth 100000 in
theorem w_82 : mp_w (Jvm.Cond.code ({ cls := "ScriptDesk$Ripemd160", name := "<init>", desc := "()V" } : Jvm.MethodName) prog_5_method_1_code (1 : Nat) (Option.none : Option Jvm.ClassFile.FieldType)) := ⟨List.mem_append_right _ (List.mem_of_getElem? (i := 82) rfl), rfl⟩
set_option maxRecDepth 100000 in
theorem w_83 : mp_w (Jvm.Cond.fieldLink "ScriptDesk$Ripemd160" (1 : Nat) "ScriptDesk$Ripemd160" "START" "[I") := ⟨List.mem_append_right _ (List.mem_of_getElem? (i := 83) rfl), rfl⟩
set_option maxRecDepth 100000 in
theorem w_85 : mp_w (Jvm.Cond.methodLink "ScriptDesk$Ripemd160" (7 : Nat) ({ cls := "ScriptDesk$Sum", name := "<init>", desc := "([IIZ)V" } : Jvm.MethodName)) := ⟨List.mem_append_right _ (List.mem_of_getElem? (i := 85) rfl), rfl⟩
set_option maxRecDepth 100000 in
theorem w_86 : mp_w (Jvm.Cond.fieldLink "ScriptDesk$Ripemd160" (13 : Nat) "ScriptDesk$Ripemd160" "left" "[I") := ⟨List.mem_append_right _ (List.mem_of_getElem? (i := 86) rfl), rfl⟩
set_option maxRecDepth 100000 in
theorem w_87 : mp_w (Jvm.Cond.fieldLink "ScriptDesk$Ripemd160" (16 : Nat) "ScriptDesk$Ripemd160" "right" "[I") := ⟨List.mem_append_right _ (List.mem_of_getElem? (i := 87) rfl), rfl⟩
set_option maxRecDepth 100000 in
theorem w_88 : mp_w (Jvm.Cond.laysFinal "ScriptDesk$Ripemd160" "ScriptDesk$Ripemd160" "left" "[I") := ⟨List.mem_append_right _ (List.mem_of_getElem? (i := 88) rfl), rfl⟩
set_option maxRecDepth 100000 in
theorem w_90 : mp_w (Jvm.Cond.laysFinal "ScriptDesk$Ripemd160" "ScriptDesk$Ripemd160" "right" "[I") := ⟨List.mem_append_right _ (List.mem_of_getElem? (i := 90) rfl), rfl⟩
set_option maxRecDepth 100000 in
theorem w_92 : mp_w (Jvm.Cond.laysFinal "ScriptDesk$Ripemd160" "ScriptDesk$Sum" "state" "[I") := ⟨List.mem_append_right _ (List.mem_of_getElem? (i := 92) rfl), rfl⟩
set_option maxRecDepth 100000 in
theorem w_93 : mp_w (Jvm.Cond.laysFinal "ScriptDesk$Ripemd160" "ScriptDesk$Sum" "words" "[I") := ⟨List.mem_append_right _ (List.mem_of_getElem? (i := 93) rfl), rfl⟩
set_option maxRecDepth 100000 in
theorem w_94 : mp_w (Jvm.Cond.laysFinal "ScriptDesk$Ripemd160" "ScriptDesk$Sum" "start" "[I") := ⟨List.mem_append_right _ (List.mem_of_getElem? (i := 94) rfl), rfl⟩
set_option maxRecDepth 100000 in
theorem w_95 : mp_w (Jvm.Cond.laysFinal "ScriptDesk$Ripemd160" "ScriptDesk$Sum" "highFirst" "Z") := ⟨List.mem_append_right _ (List.mem_of_getElem? (i := 95) rfl), rfl⟩
set_option maxRecDepth 100000 in
theorem w_96 : mp_w (Jvm.Cond.superclass "ScriptDesk$Ripemd160" "ScriptDesk$Sum") := ⟨List.mem_append_right _ (List.mem_of_getElem? (i := 96) rfl), rfl⟩
set_option maxRecDepth 100000 in
theorem w_97 : mp_w (Jvm.Cond.classLink "ScriptDesk" (30 : Nat) "ScriptDesk$Machine") := ⟨List.mem_append_right _ (List.mem_of_getElem? (i := 97) rfl), rfl⟩
set_option maxRecDepth 100000 in
theorem w_98 : mp_w (Jvm.Cond.instantiable "ScriptDesk$Machine" (8 : Nat)) := ⟨List.mem_append_right _ (List.mem_of_getElem? (i := 98) rfl), rfl⟩
set_option maxRecDepth 100000 in
theorem w_99 : mp_w (Jvm.Cond.methodLink "ScriptDesk" (32 : Nat) ({ cls := "ScriptDesk$Machine", name := "<init>", desc := "(LScriptDesk$Sum;LScriptDesk$Sum;)V" } : Jvm.MethodName)) := ⟨List.mem_append_right _ (List.mem_of_getElem? (i := 99) rfl), rfl⟩
set_option maxRecDepth 100000 in
theorem w_100 : mp_w (Jvm.Cond.instanceMethod ({ cls := "ScriptDesk$Machine", name := "<init>", desc := "(LScriptDesk$Sum;LScriptDesk$Sum;)V" } : Jvm.MethodName)) := ⟨List.mem_append_right _ (List.mem_of_getElem? (i := 100) rfl), rfl⟩
set_option maxRecDepth 100000 in
theorem w_101 : mp_w (Jvm.Cond.code ({ cls := "ScriptDesk$Machine", name := "<init>", desc := "(LScriptDesk$Sum;LScriptDesk$Sum;)V" } : Jvm.MethodName) prog_4_method_1_code (3 : Nat) (Option.none : Option Jvm.ClassFile.FieldType)) := ⟨List.mem_append_right _ (List.mem_of_getElem? (i := 101) rfl), rfl⟩
set_option maxRecDepth 100000 in
theorem w_102 : mp_w (Jvm.Cond.methodLink "ScriptDesk$Machine" (1 : Nat) ({ cls := "java/lang/Object", name := "<init>", desc := "()V" } : Jvm.MethodName)) := ⟨List.mem_append_right _ (List.mem_of_getElem? (i := 102) rfl), rfl⟩
set_option maxRecDepth 100000 in
theorem w_103 : mp_w (Jvm.Cond.classLink "ScriptDesk$Machine" (16 : Nat) "ScriptDesk$Stack") := ⟨List.mem_append_right _ (List.mem_of_getElem? (i := 103) rfl), rfl⟩
set_option maxRecDepth 100000 in
theorem w_104 : mp_w (Jvm.Cond.instantiable "ScriptDesk$Stack" (3 : Nat)) := ⟨List.mem_append_right _ (List.mem_of_getElem? (i := 104) rfl), rfl⟩
set_option maxRecDepth 100000 in
theorem w_105 : mp_w (Jvm.Cond.methodLink "ScriptDesk$Machine" (18 : Nat) ({ cls := "ScriptDesk$Stack", name := "<init>", desc := "()V" } : Jvm.MethodName)) := ⟨List.mem_append_right _ (List.mem_of_getElem? (i := 105) rfl), rfl⟩
set_option maxRecDepth 100000 in
theorem w_106 : mp_w (Jvm.Cond.instanceMethod ({ cls := "ScriptDesk$Stack", name := "<init>", desc := "()V" } : Jvm.MethodName)) := ⟨List.mem_append_right _ (List.mem_of_getElem? (i := 106) rfl), rfl⟩
set_option maxRecDepth 100000 in
theorem w_107 : mp_w (Jvm.Cond.code ({ cls := "ScriptDesk$Stack", name := "<init>", desc := "()V" } : Jvm.MethodName) prog_7_method_1_code (2 : Nat) (Option.none : Option Jvm.ClassFile.FieldType)) := ⟨List.mem_append_right _ (List.mem_of_getElem? (i := 107) rfl), rfl⟩
set_option maxRecDepth 100000 in
theorem w_108 : mp_w (Jvm.Cond.methodLink "ScriptDesk$Stack" (1 : Nat) ({ cls := "java/lang/Object", name := "<init>", desc := "()V" } : Jvm.MethodName)) := ⟨List.mem_append_right _ (List.mem_of_getElem? (i := 108) rfl), rfl⟩
set_option maxRecDepth 100000 in
theorem w_109 : mp_w (Jvm.Cond.classLink "ScriptDesk$Stack" (9 : Nat) "ScriptDesk$Thing") := ⟨List.mem_append_right _ (List.mem_of_getElem? (i := 109) rfl), rfl⟩
set_option maxRecDepth 100000 in
theorem w_110 : mp_w (Jvm.Cond.arrayOver (Jvm.ClassFile.FieldType.object "ScriptDesk$Thing")) := ⟨List.mem_append_right _ (List.mem_of_getElem? (i := 110) rfl), rfl⟩
set_option maxRecDepth 100000 in
theorem w_111 : mp_w (Jvm.Cond.instantiable "ScriptDesk$Thing" (1 : Nat)) := ⟨List.mem_append_right _ (List.mem_of_getElem? (i := 111) rfl), rfl⟩
set_option maxRecDepth 100000 in
theorem w_112 : mp_w (Jvm.Cond.methodLink "ScriptDesk$Stack" (15 : Nat) ({ cls := "ScriptDesk$Thing", name := "<init>", desc := "([B)V" } : Jvm.MethodName)) := ⟨List.mem_append_right _ (List.mem_of_getElem? (i := 112) rfl), rfl⟩
set_option maxRecDepth 100000 in
theorem w_113 : mp_w (Jvm.Cond.instanceMethod ({ cls := "ScriptDesk$Thing", name := "<init>", desc := "([B)V" } : Jvm.MethodName)) := ⟨List.mem_append_right _ (List.mem_of_getElem? (i := 113) rfl), rfl⟩
set_option maxRecDepth 100000 in
theorem w_114 : mp_w (Jvm.Cond.code ({ cls := "ScriptDesk$Thing", name := "<init>", desc := "([B)V" } : Jvm.MethodName) prog_9_method_1_code (2 : Nat) (Option.none : Option Jvm.ClassFile.FieldType)) := ⟨List.mem_append_right _ (List.mem_of_getElem? (i := 114) rfl), rfl⟩
set_option maxRecDepth 100000 in
theorem w_115 : mp_w (Jvm.Cond.methodLink "ScriptDesk$Thing" (1 : Nat) ({ cls := "java/lang/Object", name := "<init>", desc := "()V" } : Jvm.MethodName)) := ⟨List.mem_append_right _ (List.mem_of_getElem? (i := 115) rfl), rfl⟩
set_option maxRecDepth 100000 in
theorem w_116 : mp_w (Jvm.Cond.fieldLink "ScriptDesk$Thing" (7 : Nat) "ScriptDesk$Thing" "bytes" "[B") := ⟨List.mem_append_right _ (List.mem_of_getElem? (i := 116) rfl), rfl⟩
set_option maxRecDepth 100000 in
theorem w_117 : mp_w (Jvm.Cond.fieldLinkNest "ScriptDesk" (128 : Nat) "ScriptDesk$Thing" "bytes" "[B" "ScriptDesk") := ⟨List.mem_append_right _ (List.mem_of_getElem? (i := 117) rfl), rfl⟩
set_option maxRecDepth 100000 in
theorem w_118 : mp_w (Jvm.Cond.fieldLinkNest "ScriptDesk$Machine" (215 : Nat) "ScriptDesk$Thing" "bytes" "[B" "ScriptDesk") := ⟨List.mem_append_right _ (List.mem_of_getElem? (i := 118) rfl), rfl⟩
set_option maxRecDepth 100000 in
theorem w_119 : mp_w (Jvm.Cond.laysFinal "ScriptDesk$Thing" "ScriptDesk$Thing" "bytes" "[B") := ⟨List.mem_append_right _ (List.mem_of_getElem? (i := 119) rfl), rfl⟩
set_option maxRecDepth 100000 in
theorem w_121 : mp_w (Jvm.Cond.superclass "ScriptDesk$Thing" "java/lang/Object") := ⟨List.mem_append_right _ (List.mem_of_getElem? (i := 121) rfl), rfl⟩
set_option maxRecDepth 100000 in
theorem w_122 : mp_w (Jvm.Cond.fieldLink "ScriptDesk$Stack" (11 : Nat) "ScriptDesk$Stack" "things" "[LScriptDesk$Thing;") := ⟨List.mem_append_right _ (List.mem_of_getElem? (i := 122) rfl), rfl⟩
set_option maxRecDepth 100000 in
theorem w_123 : mp_w (Jvm.Cond.fieldLink "ScriptDesk$Stack" (18 : Nat) "ScriptDesk$Stack" "none" "LScriptDesk$Thing;") := ⟨List.mem_append_right _ (List.mem_of_getElem? (i := 123) rfl), rfl⟩
set_option maxRecDepth 100000 in
theorem w_124 : mp_w (Jvm.Cond.fieldLink "ScriptDesk$Stack" (22 : Nat) "ScriptDesk$Stack" "count" "I") := ⟨List.mem_append_right _ (List.mem_of_getElem? (i := 124) rfl), rfl⟩
set_option maxRecDepth 100000 in
theorem w_125 : mp_w (Jvm.Cond.laysFinal "ScriptDesk$Stack" "ScriptDesk$Stack" "things" "[LScriptDesk$Thing;") := ⟨List.mem_append_right _ (List.mem_of_getElem? (i := 125) rfl), rfl⟩
set_option maxRecDepth 100000 in
theorem w_127 : mp_w (Jvm.Cond.laysFinal "ScriptDesk$Stack" "ScriptDesk$Stack" "none" "LScriptDesk$Thing;") := ⟨List.mem_append_right _ (List.mem_of_getElem? (i := 127) rfl), rfl⟩
set_option maxRecDepth 100000 in
theorem w_129 : mp_w (Jvm.Cond.lays "ScriptDesk$Stack" "ScriptDesk$Stack" "count" "I") := ⟨List.mem_append_right _ (List.mem_of_getElem? (i := 129) rfl), rfl⟩
set_option maxRecDepth 100000 in
theorem w_131 : mp_w (Jvm.Cond.superclass "ScriptDesk$Stack" "java/lang/Object") := ⟨List.mem_append_right _ (List.mem_of_getElem? (i := 131) rfl), rfl⟩
set_option maxRecDepth 100000 in
theorem w_132 : mp_w (Jvm.Cond.classLink "ScriptDesk$Machine" (23 : Nat) "ScriptDesk$Branches") := ⟨List.mem_append_right _ (List.mem_of_getElem? (i := 132) rfl), rfl⟩
set_option maxRecDepth 100000 in
theorem w_133 : mp_w (Jvm.Cond.instantiable "ScriptDesk$Branches" (2 : Nat)) := ⟨List.mem_append_right _ (List.mem_of_getElem? (i := 133) rfl), rfl⟩
set_option maxRecDepth 100000 in
theorem w_134 : mp_w (Jvm.Cond.methodLink "ScriptDesk$Machine" (25 : Nat) ({ cls := "ScriptDesk$Branches", name := "<init>", desc := "()V" } : Jvm.MethodName)) := ⟨List.mem_append_right _ (List.mem_of_getElem? (i := 134) rfl), rfl⟩
set_option maxRecDepth 100000 in
theorem w_135 : mp_w (Jvm.Cond.instanceMethod ({ cls := "ScriptDesk$Branches", name := "<init>", desc := "()V" } : Jvm.MethodName)) := ⟨List.mem_append_right _ (List.mem_of_getElem? (i := 135) rfl), rfl⟩
set_option maxRecDepth 100000 in
theorem w_136 : mp_w (Jvm.Cond.code ({ cls := "ScriptDesk$Branches", name := "<init>", desc := "()V" } : Jvm.MethodName) prog_2_method_1_code (1 : Nat) (Option.none : Option Jvm.ClassFile.FieldType)) := ⟨List.mem_append_right _ (List.mem_of_getElem? (i := 136) rfl), rfl⟩
set_option maxRecDepth 100000 in
theorem w_137 : mp_w (Jvm.Cond.methodLink "ScriptDesk$Branches" (1 : Nat) ({ cls := "java/lang/Object", name := "<init>", desc := "()V" } : Jvm.MethodName)) := ⟨List.mem_append_right _ (List.mem_of_getElem? (i := 137) rfl), rfl⟩
set_option maxRecDepth 100000 in
theorem w_138 : mp_w (Jvm.Cond.fieldLink "ScriptDesk$Branches" (7 : Nat) "ScriptDesk$Branches" "open" "I") := ⟨List.mem_append_right _ (List.mem_of_getElem? (i := 138) rfl), rfl⟩
set_option maxRecDepth 100000 in
theorem w_139 : mp_w (Jvm.Cond.fieldLink "ScriptDesk$Branches" (13 : Nat) "ScriptDesk$Branches" "lowestOff" "I") := ⟨List.mem_append_right _ (List.mem_of_getElem? (i := 139) rfl), rfl⟩
set_option maxRecDepth 100000 in
theorem w_140 : mp_w (Jvm.Cond.lays "ScriptDesk$Branches" "ScriptDesk$Branches" "open" "I") := ⟨List.mem_append_right _ (List.mem_of_getElem? (i := 140) rfl), rfl⟩
set_option maxRecDepth 100000 in
theorem w_142 : mp_w (Jvm.Cond.lays "ScriptDesk$Branches" "ScriptDesk$Branches" "lowestOff" "I") := ⟨List.mem_append_right _ (List.mem_of_getElem? (i := 142) rfl), rfl⟩
set_option maxRecDepth 100000 in
theorem w_144 : mp_w (Jvm.Cond.superclass "ScriptDesk$Branches" "java/lang/Object") := ⟨List.mem_append_right _ (List.mem_of_getElem? (i := 144) rfl), rfl⟩
set_option maxRecDepth 100000 in
theorem w_145 : mp_w (Jvm.Cond.methodLink "ScriptDesk$Machine" (30 : Nat) ({ cls := "ScriptDesk$Thing", name := "ofNumber", desc := "(J)LScriptDesk$Thing;" } : Jvm.MethodName)) := ⟨List.mem_append_right _ (List.mem_of_getElem? (i := 145) rfl), rfl⟩
set_option maxRecDepth 100000 in
theorem w_146 : mp_w (Jvm.Cond.static ({ cls := "ScriptDesk$Thing", name := "ofNumber", desc := "(J)LScriptDesk$Thing;" } : Jvm.MethodName)) := ⟨List.mem_append_right _ (List.mem_of_getElem? (i := 146) rfl), rfl⟩
set_option maxRecDepth 100000 in
theorem w_147 : mp_w (Jvm.Cond.code ({ cls := "ScriptDesk$Thing", name := "ofNumber", desc := "(J)LScriptDesk$Thing;" } : Jvm.MethodName) prog_9_method_2_code (6 : Nat) (Option.some (Jvm.ClassFile.FieldType.object "ScriptDesk$Thing"))) := ⟨List.mem_append_right _ (List.mem_of_getElem? (i := 147) rfl), rfl⟩
set_option maxRecDepth 100000 in
theorem w_148 : mp_w (Jvm.Cond.methodLink "ScriptDesk$Thing" (13 : Nat) ({ cls := "java/lang/Math", name := "abs", desc := "(J)J" } : Jvm.MethodName)) := ⟨List.mem_append_right _ (List.mem_of_getElem? (i := 148) rfl), rfl⟩
set_option maxRecDepth 100000 in
theorem w_149 : mp_w (Jvm.Cond.static ({ cls := "java/lang/Math", name := "abs", desc := "(J)J" } : Jvm.MethodName)) := ⟨List.mem_append_right _ (List.mem_of_getElem? (i := 149) rfl), rfl⟩
set_option maxRecDepth 100000 in
theorem w_150 : mp_w (Jvm.Cond.code ({ cls := "java/lang/Math", name := "abs", desc := "(J)J" } : Jvm.MethodName) prog_21_method_61_code (2 : Nat) (Option.some Jvm.ClassFile.FieldType.long)) := ⟨List.mem_append_right _ (List.mem_of_getElem? (i := 150) rfl), rfl⟩
set_option maxRecDepth 100000 in
theorem w_151 : mp_w (Jvm.Cond.methodLink "ScriptDesk$Thing" (19 : Nat) ({ cls := "ScriptDesk$Thing", name := "bytesFor", desc := "(J)I" } : Jvm.MethodName)) := ⟨List.mem_append_right _ (List.mem_of_getElem? (i := 151) rfl), rfl⟩
set_option maxRecDepth 100000 in
theorem w_152 : mp_w (Jvm.Cond.static ({ cls := "ScriptDesk$Thing", name := "bytesFor", desc := "(J)I" } : Jvm.MethodName)) := ⟨List.mem_append_right _ (List.mem_of_getElem? (i := 152) rfl), rfl⟩
set_option maxRecDepth 100000 in
theorem w_153 : mp_w (Jvm.Cond.code ({ cls := "ScriptDesk$Thing", name := "bytesFor", desc := "(J)I" } : Jvm.MethodName) prog_9_method_3_code (2 : Nat) (Option.some Jvm.ClassFile.FieldType.int)) := ⟨List.mem_append_right _ (List.mem_of_getElem? (i := 153) rfl), rfl⟩
set_option maxRecDepth 100000 in
theorem w_154 : mp_w (Jvm.Cond.methodLink "ScriptDesk$Thing" (26 : Nat) ({ cls := "java/lang/Long", name := "numberOfLeadingZeros", desc := "(J)I" } : Jvm.MethodName)) := ⟨List.mem_append_right _ (List.mem_of_getElem? (i := 154) rfl), rfl⟩
set_option maxRecDepth 100000 in
theorem w_155 : mp_w (Jvm.Cond.static ({ cls := "java/lang/Long", name := "numberOfLeadingZeros", desc := "(J)I" } : Jvm.MethodName)) := ⟨List.mem_append_right _ (List.mem_of_getElem? (i := 155) rfl), rfl⟩
set_option maxRecDepth 100000 in
theorem w_156 : mp_w (Jvm.Cond.code ({ cls := "java/lang/Long", name := "numberOfLeadingZeros", desc := "(J)I" } : Jvm.MethodName) prog_20_method_48_code (3 : Nat) (Option.some Jvm.ClassFile.FieldType.int)) := ⟨List.mem_append_right _ (List.mem_of_getElem? (i := 156) rfl), rfl⟩
set_option maxRecDepth 100000 in
theorem w_157 : mp_w (Jvm.Cond.methodLink "java/lang/Long" (308 : Nat) ({ cls := "java/lang/Integer", name := "numberOfLeadingZeros", desc := "(I)I" } : Jvm.MethodName)) := ⟨List.mem_append_right _ (List.mem_of_getElem? (i := 157) rfl), rfl⟩
set_option maxRecDepth 100000 in
theorem w_158 : mp_w (Jvm.Cond.static ({ cls := "java/lang/Integer", name := "numberOfLeadingZeros", desc := "(I)I" } : Jvm.MethodName)) := ⟨List.mem_append_right _ (List.mem_of_getElem? (i := 158) rfl), rfl⟩
set_option maxRecDepth 100000 in
theorem w_159 : mp_w (Jvm.Cond.code ({ cls := "java/lang/Integer", name := "numberOfLeadingZeros", desc := "(I)I" } : Jvm.MethodName) prog_19_method_47_code (2 : Nat) (Option.some Jvm.ClassFile.FieldType.int)) := ⟨List.mem_append_right _ (List.mem_of_getElem? (i := 159) rfl), rfl⟩
set_option maxRecDepth 100000 in
theorem w_160 : mp_w (Jvm.Cond.constant "java/lang/Integer" (264 : Nat) (65536 : Int32)) := ⟨List.mem_append_right _ (List.mem_of_getElem? (i := 160) rfl), rfl⟩
set_option maxRecDepth 100000 in
theorem w_161 : mp_w (Jvm.Cond.classLink "ScriptDesk$Thing" (8 : Nat) "ScriptDesk$Thing") := ⟨List.mem_append_right _ (List.mem_of_getElem? (i := 161) rfl), rfl⟩
set_option maxRecDepth 100000 in
theorem w_162 : mp_w (Jvm.Cond.methodLink "ScriptDesk$Thing" (23 : Nat) ({ cls := "ScriptDesk$Thing", name := "<init>", desc := "([B)V" } : Jvm.MethodName)) := ⟨List.mem_append_right _ (List.mem_of_getElem? (i := 162) rfl), rfl⟩
set_option maxRecDepth 100000 in
theorem w_163 : mp_w (Jvm.Cond.fieldLink "ScriptDesk$Machine" (7 : Nat) "ScriptDesk$Machine" "sha256" "LScriptDesk$Sum;") := ⟨List.mem_append_right _ (List.mem_of_getElem? (i := 163) rfl), rfl⟩
set_option maxRecDepth 100000 in
theorem w_164 : mp_w (Jvm.Cond.fieldLink "ScriptDesk$Machine" (13 : Nat) "ScriptDesk$Machine" "ripemd160" "LScriptDesk$Sum;") := ⟨List.mem_append_right _ (List.mem_of_getElem? (i := 164) rfl), rfl⟩
set_option maxRecDepth 100000 in
theorem w_165 : mp_w (Jvm.Cond.fieldLink "ScriptDesk$Machine" (19 : Nat) "ScriptDesk$Machine" "other" "LScriptDesk$Stack;") := ⟨List.mem_append_right _ (List.mem_of_getElem? (i := 165) rfl), rfl⟩
set_option maxRecDepth 100000 in
theorem w_166 : mp_w (Jvm.Cond.fieldLink "ScriptDesk$Machine" (26 : Nat) "ScriptDesk$Machine" "branches" "LScriptDesk$Branches;") := ⟨List.mem_append_right _ (List.mem_of_getElem? (i := 166) rfl), rfl⟩
set_option maxRecDepth 100000 in
theorem w_167 : mp_w (Jvm.Cond.fieldLink "ScriptDesk$Machine" (36 : Nat) "ScriptDesk$Machine" "yes" "LScriptDesk$Thing;") := ⟨List.mem_append_right _ (List.mem_of_getElem? (i := 167) rfl), rfl⟩
set_option maxRecDepth 100000 in
theorem w_168 : mp_w (Jvm.Cond.fieldLink "ScriptDesk$Machine" (40 : Nat) "ScriptDesk$Machine" "no" "LScriptDesk$Thing;") := ⟨List.mem_append_right _ (List.mem_of_getElem? (i := 168) rfl), rfl⟩
set_option maxRecDepth 100000 in
theorem w_169 : mp_w (Jvm.Cond.fieldLink "ScriptDesk$Machine" (43 : Nat) "ScriptDesk$Machine" "main" "LScriptDesk$Stack;") := ⟨List.mem_append_right _ (List.mem_of_getElem? (i := 169) rfl), rfl⟩
set_option maxRecDepth 100000 in
theorem w_170 : mp_w (Jvm.Cond.fieldLink "ScriptDesk$Machine" (46 : Nat) "ScriptDesk$Machine" "counted" "I") := ⟨List.mem_append_right _ (List.mem_of_getElem? (i := 170) rfl), rfl⟩
set_option maxRecDepth 100000 in
theorem w_171 : mp_w (Jvm.Cond.laysFinal "ScriptDesk$Machine" "ScriptDesk$Machine" "sha256" "LScriptDesk$Sum;") := ⟨List.mem_append_right _ (List.mem_of_getElem? (i := 171) rfl), rfl⟩
set_option maxRecDepth 100000 in
theorem w_173 : mp_w (Jvm.Cond.laysFinal "ScriptDesk$Machine" "ScriptDesk$Machine" "ripemd160" "LScriptDesk$Sum;") := ⟨List.mem_append_right _ (List.mem_of_getElem? (i := 173) rfl), rfl⟩
set_option maxRecDepth 100000 in
theorem w_175 : mp_w (Jvm.Cond.laysFinal "ScriptDesk$Machine" "ScriptDesk$Machine" "other" "LScriptDesk$Stack;") := ⟨List.mem_append_right _ (List.mem_of_getElem? (i := 175) rfl), rfl⟩
set_option maxRecDepth 100000 in
theorem w_177 : mp_w (Jvm.Cond.laysFinal "ScriptDesk$Machine" "ScriptDesk$Machine" "branches" "LScriptDesk$Branches;") := ⟨List.mem_append_right _ (List.mem_of_getElem? (i := 177) rfl), rfl⟩
set_option maxRecDepth 100000 in
theorem w_179 : mp_w (Jvm.Cond.laysFinal "ScriptDesk$Machine" "ScriptDesk$Machine" "yes" "LScriptDesk$Thing;") := ⟨List.mem_append_right _ (List.mem_of_getElem? (i := 179) rfl), rfl⟩
set_option maxRecDepth 100000 in
theorem w_181 : mp_w (Jvm.Cond.laysFinal "ScriptDesk$Machine" "ScriptDesk$Machine" "no" "LScriptDesk$Thing;") := ⟨List.mem_append_right _ (List.mem_of_getElem? (i := 181) rfl), rfl⟩
set_option maxRecDepth 100000 in
theorem w_183 : mp_w (Jvm.Cond.lays "ScriptDesk$Machine" "ScriptDesk$Machine" "main" "LScriptDesk$Stack;") := ⟨List.mem_append_right _ (List.mem_of_getElem? (i := 183) rfl), rfl⟩
set_option maxRecDepth 100000 in
theorem w_185 : mp_w (Jvm.Cond.lays "ScriptDesk$Machine" "ScriptDesk$Machine" "counted" "I") := ⟨List.mem_append_right _ (List.mem_of_getElem? (i := 185) rfl), rfl⟩
set_option maxRecDepth 100000 in
theorem w_187 : mp_w (Jvm.Cond.superclass "ScriptDesk$Machine" "java/lang/Object") := ⟨List.mem_append_right _ (List.mem_of_getElem? (i := 187) rfl), rfl⟩
set_option maxRecDepth 100000 in
theorem w_188 : mp_w (Jvm.Cond.classLink "ScriptDesk" (39 : Nat) "ScriptDesk$Stack") := ⟨List.mem_append_right _ (List.mem_of_getElem? (i := 188) rfl), rfl⟩
set_option maxRecDepth 100000 in
theorem w_189 : mp_w (Jvm.Cond.methodLink "ScriptDesk" (41 : Nat) ({ cls := "ScriptDesk$Stack", name := "<init>", desc := "()V" } : Jvm.MethodName)) := ⟨List.mem_append_right _ (List.mem_of_getElem? (i := 189) rfl), rfl⟩
set_option maxRecDepth 100000 in
theorem w_190 : mp_w (Jvm.Cond.fieldLink "ScriptDesk" (9 : Nat) "ScriptDesk" "row" "[B") := ⟨List.mem_append_right _ (List.mem_of_getElem? (i := 190) rfl), rfl⟩
set_option maxRecDepth 100000 in
theorem w_191 : mp_w (Jvm.Cond.fieldLink "ScriptDesk" (13 : Nat) "ScriptDesk" "length" "I") := ⟨List.mem_append_right _ (List.mem_of_getElem? (i := 191) rfl), rfl⟩
set_option maxRecDepth 100000 in
theorem w_192 : mp_w (Jvm.Cond.fieldLink "ScriptDesk" (20 : Nat) "ScriptDesk" "sha256" "LScriptDesk$Sum;") := ⟨List.mem_append_right _ (List.mem_of_getElem? (i := 192) rfl), rfl⟩
set_option maxRecDepth 100000 in
theorem w_193 : mp_w (Jvm.Cond.fieldLink "ScriptDesk" (27 : Nat) "ScriptDesk" "ripemd160" "LScriptDesk$Sum;") := ⟨List.mem_append_right _ (List.mem_of_getElem? (i := 193) rfl), rfl⟩
set_option maxRecDepth 100000 in
theorem w_194 : mp_w (Jvm.Cond.fieldLink "ScriptDesk" (35 : Nat) "ScriptDesk" "machine" "LScriptDesk$Machine;") := ⟨List.mem_append_right _ (List.mem_of_getElem? (i := 194) rfl), rfl⟩
set_option maxRecDepth 100000 in
theorem w_195 : mp_w (Jvm.Cond.fieldLink "ScriptDesk" (42 : Nat) "ScriptDesk" "stack" "LScriptDesk$Stack;") := ⟨List.mem_append_right _ (List.mem_of_getElem? (i := 195) rfl), rfl⟩
set_option maxRecDepth 100000 in
theorem w_196 : mp_w (Jvm.Cond.laysFinal "ScriptDesk" "ScriptDesk" "row" "[B") := ⟨List.mem_append_right _ (List.mem_of_getElem? (i := 196) rfl), rfl⟩
set_option maxRecDepth 100000 in
theorem w_198 : mp_w (Jvm.Cond.lays "ScriptDesk" "ScriptDesk" "length" "I") := ⟨List.mem_append_right _ (List.mem_of_getElem? (i := 198) rfl), rfl⟩
set_option maxRecDepth 100000 in
theorem w_200 : mp_w (Jvm.Cond.laysFinal "ScriptDesk" "ScriptDesk" "sha256" "LScriptDesk$Sum;") := ⟨List.mem_append_right _ (List.mem_of_getElem? (i := 200) rfl), rfl⟩
set_option maxRecDepth 100000 in
theorem w_202 : mp_w (Jvm.Cond.laysFinal "ScriptDesk" "ScriptDesk" "ripemd160" "LScriptDesk$Sum;") := ⟨List.mem_append_right _ (List.mem_of_getElem? (i := 202) rfl), rfl⟩
set_option maxRecDepth 100000 in
theorem w_204 : mp_w (Jvm.Cond.laysFinal "ScriptDesk" "ScriptDesk" "machine" "LScriptDesk$Machine;") := ⟨List.mem_append_right _ (List.mem_of_getElem? (i := 204) rfl), rfl⟩
set_option maxRecDepth 100000 in
theorem w_206 : mp_w (Jvm.Cond.lays "ScriptDesk" "ScriptDesk" "stack" "LScriptDesk$Stack;") := ⟨List.mem_append_right _ (List.mem_of_getElem? (i := 206) rfl), rfl⟩
set_option maxRecDepth 100000 in
theorem w_208 : mp_w (Jvm.Cond.superclass "ScriptDesk" "java/lang/Object") := ⟨List.mem_append_right _ (List.mem_of_getElem? (i := 208) rfl), rfl⟩
set_option maxRecDepth 100000 in
theorem w_209 : mp_w (Jvm.Cond.methodLink "ScriptDeskLaw" (65 : Nat) ({ cls := "ScriptDesk", name := "depth", desc := "()I" } : Jvm.MethodName)) := ⟨List.mem_append_right _ (List.mem_of_getElem? (i := 209) rfl), rfl⟩
set_option maxRecDepth 100000 in
theorem w_210 : mp_w (Jvm.Cond.instanceMethod ({ cls := "ScriptDesk", name := "depth", desc := "()I" } : Jvm.MethodName)) := ⟨List.mem_append_right _ (List.mem_of_getElem? (i := 210) rfl), rfl⟩
set_option maxRecDepth 100000 in
theorem w_211 : mp_w (Jvm.Cond.selects "ScriptDesk" ({ cls := "ScriptDesk", name := "depth", desc := "()I" } : Jvm.MethodName) ({ cls := "ScriptDesk", name := "depth", desc := "()I" } : Jvm.MethodName)) := ⟨List.mem_append_right _ (List.mem_of_getElem? (i := 211) rfl), rfl⟩
set_option maxRecDepth 100000 in
theorem w_212 : mp_w (Jvm.Cond.code ({ cls := "ScriptDesk", name := "depth", desc := "()I" } : Jvm.MethodName) prog_1_method_5_code (1 : Nat) (Option.some Jvm.ClassFile.FieldType.int)) := ⟨List.mem_append_right _ (List.mem_of_getElem? (i := 212) rfl), rfl⟩
set_option maxRecDepth 100000 in
theorem w_213 : mp_w (Jvm.Cond.methodLink "ScriptDesk" (81 : Nat) ({ cls := "ScriptDesk$Stack", name := "count", desc := "()I" } : Jvm.MethodName)) := ⟨List.mem_append_right _ (List.mem_of_getElem? (i := 213) rfl), rfl⟩
set_option maxRecDepth 100000 in
theorem w_214 : mp_w (Jvm.Cond.instanceMethod ({ cls := "ScriptDesk$Stack", name := "count", desc := "()I" } : Jvm.MethodName)) := ⟨List.mem_append_right _ (List.mem_of_getElem? (i := 214) rfl), rfl⟩
set_option maxRecDepth 100000 in
theorem w_215 : mp_w (Jvm.Cond.selects "ScriptDesk$Stack" ({ cls := "ScriptDesk$Stack", name := "count", desc := "()I" } : Jvm.MethodName) ({ cls := "ScriptDesk$Stack", name := "count", desc := "()I" } : Jvm.MethodName)) := ⟨List.mem_append_right _ (List.mem_of_getElem? (i := 215) rfl), rfl⟩
set_option maxRecDepth 100000 in
theorem w_216 : mp_w (Jvm.Cond.code ({ cls := "ScriptDesk$Stack", name := "count", desc := "()I" } : Jvm.MethodName) prog_7_method_3_code (1 : Nat) (Option.some Jvm.ClassFile.FieldType.int)) := ⟨List.mem_append_right _ (List.mem_of_getElem? (i := 216) rfl), rfl⟩
set_option maxRecDepth 100000 in
theorem w_217 : mp_w (Jvm.Cond.methodLink "ScriptDeskLaw" (48 : Nat) ({ cls := "ScriptDeskLaw", name := "feed", desc := "(LScriptDesk;IIIII[J)I" } : Jvm.MethodName)) := ⟨List.mem_append_right _ (List.mem_of_getElem? (i := 217) rfl), rfl⟩
set_option maxRecDepth 100000 in
theorem w_218 : mp_w (Jvm.Cond.static ({ cls := "ScriptDeskLaw", name := "feed", desc := "(LScriptDesk;IIIII[J)I" } : Jvm.MethodName)) := ⟨List.mem_append_right _ (List.mem_of_getElem? (i := 218) rfl), rfl⟩
set_option maxRecDepth 100000 in
theorem w_219 : mp_w (Jvm.Cond.codeWith ({ cls := "ScriptDeskLaw", name := "feed", desc := "(LScriptDesk;IIIII[J)I" } : Jvm.MethodName) method_3_code (8 : Nat) (Option.some Jvm.ClassFile.FieldType.int) [((0 : Nat), (16 : Nat), (19 : Nat), (13 : Nat))]) := ⟨List.mem_append_right _ (List.mem_of_getElem? (i := 219) rfl), rfl⟩
set_option maxRecDepth 100000 in
theorem w_220 : mp_w (Jvm.Cond.classLink "ScriptDeskLaw" (13 : Nat) "java/lang/IllegalStateException") := ⟨List.mem_append_right _ (List.mem_of_getElem? (i := 220) rfl), rfl⟩
set_option maxRecDepth 100000 in
theorem w_221 : mp_w (Jvm.Cond.methodLink "ScriptDeskLaw" (7 : Nat) ({ cls := "ScriptDesk", name := "feed", desc := "(IIIII)I" } : Jvm.MethodName)) := ⟨List.mem_append_right _ (List.mem_of_getElem? (i := 221) rfl), rfl⟩
set_option maxRecDepth 100000 in
theorem w_222 : mp_w (Jvm.Cond.instanceMethod ({ cls := "ScriptDesk", name := "feed", desc := "(IIIII)I" } : Jvm.MethodName)) := ⟨List.mem_append_right _ (List.mem_of_getElem? (i := 222) rfl), rfl⟩
set_option maxRecDepth 100000 in
theorem w_223 : mp_w (Jvm.Cond.selects "ScriptDesk" ({ cls := "ScriptDesk", name := "feed", desc := "(IIIII)I" } : Jvm.MethodName) ({ cls := "ScriptDesk", name := "feed", desc := "(IIIII)I" } : Jvm.MethodName)) := ⟨List.mem_append_right _ (List.mem_of_getElem? (i := 223) rfl), rfl⟩
set_option maxRecDepth 100000 in
theorem w_224 : mp_w (Jvm.Cond.code ({ cls := "ScriptDesk", name := "feed", desc := "(IIIII)I" } : Jvm.MethodName) prog_1_method_2_code (6 : Nat) (Option.some Jvm.ClassFile.FieldType.int)) := ⟨List.mem_append_right _ (List.mem_of_getElem? (i := 224) rfl), rfl⟩
set_option maxRecDepth 100000 in
theorem w_225 : mp_w (Jvm.Cond.classLink "ScriptDesk" (46 : Nat) "java/lang/IllegalStateException") := ⟨List.mem_append_right _ (List.mem_of_getElem? (i := 225) rfl), rfl⟩
set_option maxRecDepth 100000 in
theorem w_226 : mp_w (Jvm.Cond.instantiable "java/lang/IllegalStateException" (6 : Nat)) := ⟨List.mem_append_right _ (List.mem_of_getElem? (i := 226) rfl), rfl⟩
set_option maxRecDepth 100000 in
theorem w_227 : mp_w (Jvm.Cond.castable "java/lang/IllegalStateException" "java/lang/IllegalStateException") := ⟨List.mem_append_right _ (List.mem_of_getElem? (i := 227) rfl), rfl⟩
set_option maxRecDepth 100000 in
theorem w_228 : mp_w (Jvm.Cond.declares ({ cls := "java/lang/RuntimeException", name := "<init>", desc := "()V" } : Jvm.MethodName)) := ⟨List.mem_append_right _ (List.mem_of_getElem? (i := 228) rfl), rfl⟩
set_option maxRecDepth 100000 in
theorem w_229 : mp_w (Jvm.Cond.declares ({ cls := "java/lang/RuntimeException", name := "<init>", desc := "(Ljava/lang/String;)V" } : Jvm.MethodName)) := ⟨List.mem_append_right _ (List.mem_of_getElem? (i := 229) rfl), rfl⟩
set_option maxRecDepth 100000 in
theorem w_230 : mp_w (Jvm.Cond.declares ({ cls := "java/lang/Exception", name := "<init>", desc := "()V" } : Jvm.MethodName)) := ⟨List.mem_append_right _ (List.mem_of_getElem? (i := 230) rfl), rfl⟩
set_option maxRecDepth 100000 in
theorem w_231 : mp_w (Jvm.Cond.declares ({ cls := "java/lang/Exception", name := "<init>", desc := "(Ljava/lang/String;)V" } : Jvm.MethodName)) := ⟨List.mem_append_right _ (List.mem_of_getElem? (i := 231) rfl), rfl⟩
set_option maxRecDepth 100000 in
theorem w_232 : mp_w (Jvm.Cond.declares ({ cls := "java/lang/Throwable", name := "<init>", desc := "()V" } : Jvm.MethodName)) := ⟨List.mem_append_right _ (List.mem_of_getElem? (i := 232) rfl), rfl⟩
set_option maxRecDepth 100000 in
theorem w_233 : mp_w (Jvm.Cond.declares ({ cls := "java/lang/Throwable", name := "<init>", desc := "(Ljava/lang/String;)V" } : Jvm.MethodName)) := ⟨List.mem_append_right _ (List.mem_of_getElem? (i := 233) rfl), rfl⟩
set_option maxRecDepth 100000 in
theorem w_234 : mp_w (Jvm.Cond.selects "java/lang/IllegalStateException" ({ cls := "java/lang/Throwable", name := "fillInStackTrace", desc := "(I)Ljava/lang/Throwable;" } : Jvm.MethodName) ({ cls := "java/lang/Throwable", name := "fillInStackTrace", desc := "(I)Ljava/lang/Throwable;" } : Jvm.MethodName)) := ⟨List.mem_append_right _ (List.mem_of_getElem? (i := 234) rfl), rfl⟩
set_option maxRecDepth 100000 in
theorem w_235 : mp_w (Jvm.Cond.selects "java/lang/IllegalStateException" ({ cls := "java/lang/Throwable", name := "fillInStackTrace", desc := "()Ljava/lang/Throwable;" } : Jvm.MethodName) ({ cls := "java/lang/Throwable", name := "fillInStackTrace", desc := "()Ljava/lang/Throwable;" } : Jvm.MethodName)) := ⟨List.mem_append_right _ (List.mem_of_getElem? (i := 235) rfl), rfl⟩
set_option maxRecDepth 100000 in
theorem w_236 : mp_w (Jvm.Cond.lays "java/lang/IllegalStateException" "java/lang/Throwable" "cause" "Ljava/lang/Throwable;") := ⟨List.mem_append_right _ (List.mem_of_getElem? (i := 236) rfl), rfl⟩
set_option maxRecDepth 100000 in
theorem w_237 : mp_w (Jvm.Cond.lays "java/lang/Throwable" "java/lang/Throwable" "cause" "Ljava/lang/Throwable;") := ⟨List.mem_append_right _ (List.mem_of_getElem? (i := 237) rfl), rfl⟩
set_option maxRecDepth 100000 in
theorem w_238 : mp_w (Jvm.Cond.lays "java/lang/IllegalStateException" "java/lang/Throwable" "stackTrace" "[Ljava/lang/StackTraceElement;") := ⟨List.mem_append_right _ (List.mem_of_getElem? (i := 238) rfl), rfl⟩
set_option maxRecDepth 100000 in
theorem w_239 : mp_w (Jvm.Cond.lays "java/lang/Throwable" "java/lang/Throwable" "stackTrace" "[Ljava/lang/StackTraceElement;") := ⟨List.mem_append_right _ (List.mem_of_getElem? (i := 239) rfl), rfl⟩
set_option maxRecDepth 100000 in
theorem w_240 : mp_w (Jvm.Cond.lays "java/lang/IllegalStateException" "java/lang/Throwable" "suppressedExceptions" "Ljava/util/List;") := ⟨List.mem_append_right _ (List.mem_of_getElem? (i := 240) rfl), rfl⟩
set_option maxRecDepth 100000 in
theorem w_241 : mp_w (Jvm.Cond.lays "java/lang/Throwable" "java/lang/Throwable" "suppressedExceptions" "Ljava/util/List;") := ⟨List.mem_append_right _ (List.mem_of_getElem? (i := 241) rfl), rfl⟩
set_option maxRecDepth 100000 in
theorem w_242 : mp_w (Jvm.Cond.lays "java/lang/IllegalStateException" "java/lang/Throwable" "detailMessage" "Ljava/lang/String;") := ⟨List.mem_append_right _ (List.mem_of_getElem? (i := 242) rfl), rfl⟩
set_option maxRecDepth 100000 in
theorem w_243 : mp_w (Jvm.Cond.lays "java/lang/Throwable" "java/lang/Throwable" "detailMessage" "Ljava/lang/String;") := ⟨List.mem_append_right _ (List.mem_of_getElem? (i := 243) rfl), rfl⟩
set_option maxRecDepth 100000 in
theorem w_244 : mp_w (Jvm.Cond.lays "java/lang/IllegalStateException" "java/lang/Throwable" "backtrace" "Ljava/lang/Object;") := ⟨List.mem_append_right _ (List.mem_of_getElem? (i := 244) rfl), rfl⟩
set_option maxRecDepth 100000 in
theorem w_245 : mp_w (Jvm.Cond.lays "java/lang/Throwable" "java/lang/Throwable" "backtrace" "Ljava/lang/Object;") := ⟨List.mem_append_right _ (List.mem_of_getElem? (i := 245) rfl), rfl⟩
set_option maxRecDepth 100000 in
theorem w_246 : mp_w (Jvm.Cond.fieldLink "java/lang/Throwable" (198 : Nat) "java/lang/Throwable" "backtrace" "Ljava/lang/Object;") := ⟨List.mem_append_right _ (List.mem_of_getElem? (i := 246) rfl), rfl⟩
set_option maxRecDepth 100000 in
theorem w_247 : mp_w (Jvm.Cond.superclass "java/lang/Throwable" "java/lang/Object") := ⟨List.mem_append_right _ (List.mem_of_getElem? (i := 247) rfl), rfl⟩
set_option maxRecDepth 100000 in
theorem w_248 : mp_w (Jvm.Cond.instanceMethod ({ cls := "java/lang/Throwable", name := "<init>", desc := "()V" } : Jvm.MethodName)) := ⟨List.mem_append_right _ (List.mem_of_getElem? (i := 248) rfl), rfl⟩
set_option maxRecDepth 100000 in
theorem w_249 : mp_w (Jvm.Cond.code ({ cls := "java/lang/Throwable", name := "<init>", desc := "()V" } : Jvm.MethodName) prog_28_method_1_code (1 : Nat) (Option.none : Option Jvm.ClassFile.FieldType)) := ⟨List.mem_append_right _ (List.mem_of_getElem? (i := 249) rfl), rfl⟩
set_option maxRecDepth 100000 in
theorem w_250 : mp_w (Jvm.Cond.methodLink "java/lang/Throwable" (1 : Nat) ({ cls := "java/lang/Object", name := "<init>", desc := "()V" } : Jvm.MethodName)) := ⟨List.mem_append_right _ (List.mem_of_getElem? (i := 250) rfl), rfl⟩
set_option maxRecDepth 100000 in
theorem w_251 : mp_w (Jvm.Cond.fieldLink "java/lang/Throwable" (13 : Nat) "java/lang/Throwable" "UNASSIGNED_STACK" "[Ljava/lang/StackTraceElement;") := ⟨List.mem_append_right _ (List.mem_of_getElem? (i := 251) rfl), rfl⟩
set_option maxRecDepth 100000 in
theorem w_253 : mp_w (Jvm.Cond.fieldLink "java/lang/Throwable" (20 : Nat) "java/lang/Throwable" "SUPPRESSED_SENTINEL" "Ljava/util/List;") := ⟨List.mem_append_right _ (List.mem_of_getElem? (i := 253) rfl), rfl⟩
set_option maxRecDepth 100000 in
theorem w_255 : mp_w (Jvm.Cond.methodLink "java/lang/Throwable" (27 : Nat) ({ cls := "java/lang/Throwable", name := "fillInStackTrace", desc := "()Ljava/lang/Throwable;" } : Jvm.MethodName)) := ⟨List.mem_append_right _ (List.mem_of_getElem? (i := 255) rfl), rfl⟩
set_option maxRecDepth 100000 in
theorem w_256 : mp_w (Jvm.Cond.instanceMethod ({ cls := "java/lang/Throwable", name := "fillInStackTrace", desc := "()Ljava/lang/Throwable;" } : Jvm.MethodName)) := ⟨List.mem_append_right _ (List.mem_of_getElem? (i := 256) rfl), rfl⟩
set_option maxRecDepth 100000 in
theorem w_257 : mp_w (Jvm.Cond.sameMethod "java/lang/Throwable" "java/lang/Throwable" "fillInStackTrace" "()Ljava/lang/Throwable;") := ⟨List.mem_append_right _ (List.mem_of_getElem? (i := 257) rfl), rfl⟩
set_option maxRecDepth 100000 in
theorem w_258 : mp_w (Jvm.Cond.selects "java/lang/ArithmeticException" ({ cls := "java/lang/Throwable", name := "fillInStackTrace", desc := "()Ljava/lang/Throwable;" } : Jvm.MethodName) ({ cls := "java/lang/Throwable", name := "fillInStackTrace", desc := "()Ljava/lang/Throwable;" } : Jvm.MethodName)) := ⟨List.mem_append_right _ (List.mem_of_getElem? (i := 258) rfl), rfl⟩
set_option maxRecDepth 100000 in
theorem w_259 : mp_w (Jvm.Cond.selects "java/lang/IllegalArgumentException" ({ cls := "java/lang/Throwable", name := "fillInStackTrace", desc := "()Ljava/lang/Throwable;" } : Jvm.MethodName) ({ cls := "java/lang/Throwable", name := "fillInStackTrace", desc := "()Ljava/lang/Throwable;" } : Jvm.MethodName)) := ⟨List.mem_append_right _ (List.mem_of_getElem? (i := 259) rfl), rfl⟩
set_option maxRecDepth 100000 in
theorem w_260 : mp_w (Jvm.Cond.selects "java/lang/IndexOutOfBoundsException" ({ cls := "java/lang/Throwable", name := "fillInStackTrace", desc := "()Ljava/lang/Throwable;" } : Jvm.MethodName) ({ cls := "java/lang/Throwable", name := "fillInStackTrace", desc := "()Ljava/lang/Throwable;" } : Jvm.MethodName)) := ⟨List.mem_append_right _ (List.mem_of_getElem? (i := 260) rfl), rfl⟩
set_option maxRecDepth 100000 in
theorem w_261 : mp_w (Jvm.Cond.codeSync ({ cls := "java/lang/Throwable", name := "fillInStackTrace", desc := "()Ljava/lang/Throwable;" } : Jvm.MethodName) prog_28_method_18_code (1 : Nat) (Option.some (Jvm.ClassFile.FieldType.object "java/lang/Throwable"))) := ⟨List.mem_append_right _ (List.mem_of_getElem? (i := 261) rfl), rfl⟩
set_option maxRecDepth 100000 in
theorem w_262 : mp_w (Jvm.Cond.methodLink "java/lang/Throwable" (202 : Nat) ({ cls := "java/lang/Throwable", name := "fillInStackTrace", desc := "(I)Ljava/lang/Throwable;" } : Jvm.MethodName)) := ⟨List.mem_append_right _ (List.mem_of_getElem? (i := 262) rfl), rfl⟩
set_option maxRecDepth 100000 in
theorem w_264 : mp_w (Jvm.Cond.instanceMethod ({ cls := "java/lang/Throwable", name := "fillInStackTrace", desc := "(I)Ljava/lang/Throwable;" } : Jvm.MethodName)) := ⟨List.mem_append_right _ (List.mem_of_getElem? (i := 264) rfl), rfl⟩
set_option maxRecDepth 100000 in
theorem w_265 : mp_w (Jvm.Cond.instantiable "java/lang/Throwable" (6 : Nat)) := ⟨List.mem_append_right _ (List.mem_of_getElem? (i := 265) rfl), rfl⟩
set_option maxRecDepth 100000 in
theorem w_266 : mp_w (Jvm.Cond.native ({ cls := "java/lang/Throwable", name := "fillInStackTrace", desc := "(I)Ljava/lang/Throwable;" } : Jvm.MethodName)) := ⟨List.mem_append_right _ (List.mem_of_getElem? (i := 266) rfl), rfl⟩
set_option maxRecDepth 100000 in
theorem w_267 : mp_w (Jvm.Cond.methodLink "ScriptDesk" (48 : Nat) ({ cls := "java/lang/IllegalStateException", name := "<init>", desc := "()V" } : Jvm.MethodName)) := ⟨List.mem_append_right _ (List.mem_of_getElem? (i := 267) rfl), rfl⟩
set_option maxRecDepth 100000 in
theorem w_268 : mp_w (Jvm.Cond.instanceMethod ({ cls := "java/lang/IllegalStateException", name := "<init>", desc := "()V" } : Jvm.MethodName)) := ⟨List.mem_append_right _ (List.mem_of_getElem? (i := 268) rfl), rfl⟩
set_option maxRecDepth 100000 in
theorem w_269 : mp_w (Jvm.Cond.code ({ cls := "java/lang/IllegalStateException", name := "<init>", desc := "()V" } : Jvm.MethodName) prog_17_method_1_code (1 : Nat) (Option.none : Option Jvm.ClassFile.FieldType)) := ⟨List.mem_append_right _ (List.mem_of_getElem? (i := 269) rfl), rfl⟩
set_option maxRecDepth 100000 in
theorem w_270 : mp_w (Jvm.Cond.methodLink "java/lang/IllegalStateException" (1 : Nat) ({ cls := "java/lang/RuntimeException", name := "<init>", desc := "()V" } : Jvm.MethodName)) := ⟨List.mem_append_right _ (List.mem_of_getElem? (i := 270) rfl), rfl⟩
set_option maxRecDepth 100000 in
theorem w_271 : mp_w (Jvm.Cond.instanceMethod ({ cls := "java/lang/RuntimeException", name := "<init>", desc := "()V" } : Jvm.MethodName)) := ⟨List.mem_append_right _ (List.mem_of_getElem? (i := 271) rfl), rfl⟩
set_option maxRecDepth 100000 in
theorem w_272 : mp_w (Jvm.Cond.code ({ cls := "java/lang/RuntimeException", name := "<init>", desc := "()V" } : Jvm.MethodName) prog_22_method_1_code (1 : Nat) (Option.none : Option Jvm.ClassFile.FieldType)) := ⟨List.mem_append_right _ (List.mem_of_getElem? (i := 272) rfl), rfl⟩
set_option maxRecDepth 100000 in
theorem w_273 : mp_w (Jvm.Cond.methodLink "java/lang/RuntimeException" (1 : Nat) ({ cls := "java/lang/Exception", name := "<init>", desc := "()V" } : Jvm.MethodName)) := ⟨List.mem_append_right _ (List.mem_of_getElem? (i := 273) rfl), rfl⟩
set_option maxRecDepth 100000 in
theorem w_274 : mp_w (Jvm.Cond.instanceMethod ({ cls := "java/lang/Exception", name := "<init>", desc := "()V" } : Jvm.MethodName)) := ⟨List.mem_append_right _ (List.mem_of_getElem? (i := 274) rfl), rfl⟩
set_option maxRecDepth 100000 in
theorem w_275 : mp_w (Jvm.Cond.code ({ cls := "java/lang/Exception", name := "<init>", desc := "()V" } : Jvm.MethodName) prog_15_method_1_code (1 : Nat) (Option.none : Option Jvm.ClassFile.FieldType)) := ⟨List.mem_append_right _ (List.mem_of_getElem? (i := 275) rfl), rfl⟩
set_option maxRecDepth 100000 in
theorem w_276 : mp_w (Jvm.Cond.methodLink "java/lang/Exception" (1 : Nat) ({ cls := "java/lang/Throwable", name := "<init>", desc := "()V" } : Jvm.MethodName)) := ⟨List.mem_append_right _ (List.mem_of_getElem? (i := 276) rfl), rfl⟩
set_option maxRecDepth 100000 in
theorem w_277 : mp_w (Jvm.Cond.fieldLink "java/lang/Throwable" (198 : Nat) "java/lang/Throwable" "backtrace" "Ljava/lang/Object;") := ⟨List.mem_append_right _ (List.mem_of_getElem? (i := 277) rfl), rfl⟩
set_option maxRecDepth 100000 in
theorem w_278 : mp_w (Jvm.Cond.fieldLink "java/lang/Throwable" (31 : Nat) "java/lang/Throwable" "detailMessage" "Ljava/lang/String;") := ⟨List.mem_append_right _ (List.mem_of_getElem? (i := 278) rfl), rfl⟩
set_option maxRecDepth 100000 in
theorem w_279 : mp_w (Jvm.Cond.fieldLink "java/lang/Throwable" (7 : Nat) "java/lang/Throwable" "cause" "Ljava/lang/Throwable;") := ⟨List.mem_append_right _ (List.mem_of_getElem? (i := 279) rfl), rfl⟩
set_option maxRecDepth 100000 in
theorem w_280 : mp_w (Jvm.Cond.fieldLink "java/lang/Throwable" (17 : Nat) "java/lang/Throwable" "stackTrace" "[Ljava/lang/StackTraceElement;") := ⟨List.mem_append_right _ (List.mem_of_getElem? (i := 280) rfl), rfl⟩
set_option maxRecDepth 100000 in
theorem w_281 : mp_w (Jvm.Cond.fieldLink "java/lang/Throwable" (24 : Nat) "java/lang/Throwable" "suppressedExceptions" "Ljava/util/List;") := ⟨List.mem_append_right _ (List.mem_of_getElem? (i := 281) rfl), rfl⟩
set_option maxRecDepth 100000 in
theorem w_286 : mp_w (Jvm.Cond.lays "java/lang/IllegalStateException" "java/lang/Throwable" "depth" "I") := ⟨List.mem_append_right _ (List.mem_of_getElem? (i := 286) rfl), rfl⟩
set_option maxRecDepth 100000 in
theorem w_289 : mp_w (Jvm.Cond.superclass "java/lang/IllegalStateException" "java/lang/RuntimeException") := ⟨List.mem_append_right _ (List.mem_of_getElem? (i := 289) rfl), rfl⟩
set_option maxRecDepth 100000 in
theorem w_290 : mp_w (Jvm.Cond.methodLink "ScriptDesk" (49 : Nat) ({ cls := "ScriptDesk", name := "append", desc := "(I)V" } : Jvm.MethodName)) := ⟨List.mem_append_right _ (List.mem_of_getElem? (i := 290) rfl), rfl⟩
