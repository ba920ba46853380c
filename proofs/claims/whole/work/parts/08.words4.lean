set_option maxRecDepth 100000 in
theorem w_876 : mp_w (Jvm.Cond.static ({ cls := "ScriptDeskLaw", name := "at", desc := "(LScriptDesk;II[J)I" } : Jvm.MethodName)) := ⟨List.mem_append_right _ (List.mem_of_getElem? (i := 876) rfl), rfl⟩
set_option maxRecDepth 100000 in
theorem w_877 : mp_w (Jvm.Cond.codeWith ({ cls := "ScriptDeskLaw", name := "at", desc := "(LScriptDesk;II[J)I" } : Jvm.MethodName) method_7_code (5 : Nat) (Option.some Jvm.ClassFile.FieldType.int) [((0 : Nat), (10 : Nat), (13 : Nat), (27 : Nat))]) := ⟨List.mem_append_right _ (List.mem_of_getElem? (i := 877) rfl), rfl⟩
set_option maxRecDepth 100000 in
theorem w_878 : mp_w (Jvm.Cond.methodLink "ScriptDeskLaw" (29 : Nat) ({ cls := "ScriptDesk", name := "at", desc := "(II)I" } : Jvm.MethodName)) := ⟨List.mem_append_right _ (List.mem_of_getElem? (i := 878) rfl), rfl⟩
set_option maxRecDepth 100000 in
theorem w_879 : mp_w (Jvm.Cond.instanceMethod ({ cls := "ScriptDesk", name := "at", desc := "(II)I" } : Jvm.MethodName)) := ⟨List.mem_append_right _ (List.mem_of_getElem? (i := 879) rfl), rfl⟩
set_option maxRecDepth 100000 in
theorem w_880 : mp_w (Jvm.Cond.selects "ScriptDesk" ({ cls := "ScriptDesk", name := "at", desc := "(II)I" } : Jvm.MethodName) ({ cls := "ScriptDesk", name := "at", desc := "(II)I" } : Jvm.MethodName)) := ⟨List.mem_append_right _ (List.mem_of_getElem? (i := 880) rfl), rfl⟩
set_option maxRecDepth 100000 in
theorem w_881 : mp_w (Jvm.Cond.code ({ cls := "ScriptDesk", name := "at", desc := "(II)I" } : Jvm.MethodName) prog_1_method_7_code (3 : Nat) (Option.some Jvm.ClassFile.FieldType.int)) := ⟨List.mem_append_right _ (List.mem_of_getElem? (i := 881) rfl), rfl⟩
set_option maxRecDepth 100000 in
theorem w_882 : mp_w (Jvm.Cond.methodLink "ScriptDesk" (93 : Nat) ({ cls := "ScriptDesk$Thing", name := "byteAt", desc := "(I)I" } : Jvm.MethodName)) := ⟨List.mem_append_right _ (List.mem_of_getElem? (i := 882) rfl), rfl⟩
set_option maxRecDepth 100000 in
theorem w_883 : mp_w (Jvm.Cond.methodLink "ScriptDeskLaw" (76 : Nat) ({ cls := "ScriptDeskLaw", name := "number", desc := "(LScriptDesk;I[J)I" } : Jvm.MethodName)) := ⟨List.mem_append_right _ (List.mem_of_getElem? (i := 883) rfl), rfl⟩
set_option maxRecDepth 100000 in
theorem w_884 : mp_w (Jvm.Cond.static ({ cls := "ScriptDeskLaw", name := "number", desc := "(LScriptDesk;I[J)I" } : Jvm.MethodName)) := ⟨List.mem_append_right _ (List.mem_of_getElem? (i := 884) rfl), rfl⟩
set_option maxRecDepth 100000 in
theorem w_885 : mp_w (Jvm.Cond.codeWith ({ cls := "ScriptDeskLaw", name := "number", desc := "(LScriptDesk;I[J)I" } : Jvm.MethodName) method_8_code (4 : Nat) (Option.some Jvm.ClassFile.FieldType.int) [((0 : Nat), (9 : Nat), (12 : Nat), (27 : Nat)), ((0 : Nat), (9 : Nat), (15 : Nat), (36 : Nat))]) := ⟨List.mem_append_right _ (List.mem_of_getElem? (i := 885) rfl), rfl⟩
set_option maxRecDepth 100000 in
theorem w_886 : mp_w (Jvm.Cond.classLink "ScriptDeskLaw" (36 : Nat) "java/lang/ArithmeticException") := ⟨List.mem_append_right _ (List.mem_of_getElem? (i := 886) rfl), rfl⟩
set_option maxRecDepth 100000 in
theorem w_887 : mp_w (Jvm.Cond.methodLink "ScriptDeskLaw" (33 : Nat) ({ cls := "ScriptDesk", name := "number", desc := "(I)I" } : Jvm.MethodName)) := ⟨List.mem_append_right _ (List.mem_of_getElem? (i := 887) rfl), rfl⟩
set_option maxRecDepth 100000 in
theorem w_888 : mp_w (Jvm.Cond.instanceMethod ({ cls := "ScriptDesk", name := "number", desc := "(I)I" } : Jvm.MethodName)) := ⟨List.mem_append_right _ (List.mem_of_getElem? (i := 888) rfl), rfl⟩
set_option maxRecDepth 100000 in
theorem w_889 : mp_w (Jvm.Cond.selects "ScriptDesk" ({ cls := "ScriptDesk", name := "number", desc := "(I)I" } : Jvm.MethodName) ({ cls := "ScriptDesk", name := "number", desc := "(I)I" } : Jvm.MethodName)) := ⟨List.mem_append_right _ (List.mem_of_getElem? (i := 889) rfl), rfl⟩
set_option maxRecDepth 100000 in
theorem w_890 : mp_w (Jvm.Cond.code ({ cls := "ScriptDesk", name := "number", desc := "(I)I" } : Jvm.MethodName) prog_1_method_8_code (2 : Nat) (Option.some Jvm.ClassFile.FieldType.int)) := ⟨List.mem_append_right _ (List.mem_of_getElem? (i := 890) rfl), rfl⟩
set_option maxRecDepth 100000 in
theorem w_891 : mp_w (Jvm.Cond.methodLink "ScriptDesk" (97 : Nat) ({ cls := "ScriptDesk$Thing", name := "isNumber", desc := "()Z" } : Jvm.MethodName)) := ⟨List.mem_append_right _ (List.mem_of_getElem? (i := 891) rfl), rfl⟩
set_option maxRecDepth 100000 in
theorem w_892 : mp_w (Jvm.Cond.classLink "ScriptDesk" (100 : Nat) "java/lang/ArithmeticException") := ⟨List.mem_append_right _ (List.mem_of_getElem? (i := 892) rfl), rfl⟩
set_option maxRecDepth 100000 in
theorem w_893 : mp_w (Jvm.Cond.instantiable "java/lang/ArithmeticException" (6 : Nat)) := ⟨List.mem_append_right _ (List.mem_of_getElem? (i := 893) rfl), rfl⟩
set_option maxRecDepth 100000 in
theorem w_894 : mp_w (Jvm.Cond.castable "java/lang/ArithmeticException" "java/lang/ArithmeticException") := ⟨List.mem_append_right _ (List.mem_of_getElem? (i := 894) rfl), rfl⟩
set_option maxRecDepth 100000 in
theorem w_895 : mp_w (Jvm.Cond.selects "java/lang/ArithmeticException" ({ cls := "java/lang/Throwable", name := "fillInStackTrace", desc := "(I)Ljava/lang/Throwable;" } : Jvm.MethodName) ({ cls := "java/lang/Throwable", name := "fillInStackTrace", desc := "(I)Ljava/lang/Throwable;" } : Jvm.MethodName)) := ⟨List.mem_append_right _ (List.mem_of_getElem? (i := 895) rfl), rfl⟩
set_option maxRecDepth 100000 in
theorem w_896 : mp_w (Jvm.Cond.lays "java/lang/ArithmeticException" "java/lang/Throwable" "cause" "Ljava/lang/Throwable;") := ⟨List.mem_append_right _ (List.mem_of_getElem? (i := 896) rfl), rfl⟩
set_option maxRecDepth 100000 in
theorem w_897 : mp_w (Jvm.Cond.lays "java/lang/ArithmeticException" "java/lang/Throwable" "stackTrace" "[Ljava/lang/StackTraceElement;") := ⟨List.mem_append_right _ (List.mem_of_getElem? (i := 897) rfl), rfl⟩
set_option maxRecDepth 100000 in
theorem w_898 : mp_w (Jvm.Cond.lays "java/lang/ArithmeticException" "java/lang/Throwable" "suppressedExceptions" "Ljava/util/List;") := ⟨List.mem_append_right _ (List.mem_of_getElem? (i := 898) rfl), rfl⟩
set_option maxRecDepth 100000 in
theorem w_899 : mp_w (Jvm.Cond.lays "java/lang/ArithmeticException" "java/lang/Throwable" "detailMessage" "Ljava/lang/String;") := ⟨List.mem_append_right _ (List.mem_of_getElem? (i := 899) rfl), rfl⟩
set_option maxRecDepth 100000 in
theorem w_900 : mp_w (Jvm.Cond.lays "java/lang/ArithmeticException" "java/lang/Throwable" "backtrace" "Ljava/lang/Object;") := ⟨List.mem_append_right _ (List.mem_of_getElem? (i := 900) rfl), rfl⟩
set_option maxRecDepth 100000 in
theorem w_901 : mp_w (Jvm.Cond.methodLink "ScriptDesk" (102 : Nat) ({ cls := "java/lang/ArithmeticException", name := "<init>", desc := "()V" } : Jvm.MethodName)) := ⟨List.mem_append_right _ (List.mem_of_getElem? (i := 901) rfl), rfl⟩
set_option maxRecDepth 100000 in
theorem w_902 : mp_w (Jvm.Cond.instanceMethod ({ cls := "java/lang/ArithmeticException", name := "<init>", desc := "()V" } : Jvm.MethodName)) := ⟨List.mem_append_right _ (List.mem_of_getElem? (i := 902) rfl), rfl⟩
set_option maxRecDepth 100000 in
theorem w_903 : mp_w (Jvm.Cond.code ({ cls := "java/lang/ArithmeticException", name := "<init>", desc := "()V" } : Jvm.MethodName) prog_13_method_1_code (1 : Nat) (Option.none : Option Jvm.ClassFile.FieldType)) := ⟨List.mem_append_right _ (List.mem_of_getElem? (i := 903) rfl), rfl⟩
set_option maxRecDepth 100000 in
theorem w_904 : mp_w (Jvm.Cond.methodLink "java/lang/ArithmeticException" (1 : Nat) ({ cls := "java/lang/RuntimeException", name := "<init>", desc := "()V" } : Jvm.MethodName)) := ⟨List.mem_append_right _ (List.mem_of_getElem? (i := 904) rfl), rfl⟩
set_option maxRecDepth 100000 in
theorem w_905 : mp_w (Jvm.Cond.lays "java/lang/ArithmeticException" "java/lang/Throwable" "depth" "I") := ⟨List.mem_append_right _ (List.mem_of_getElem? (i := 905) rfl), rfl⟩
set_option maxRecDepth 100000 in
theorem w_906 : mp_w (Jvm.Cond.superclass "java/lang/ArithmeticException" "java/lang/RuntimeException") := ⟨List.mem_append_right _ (List.mem_of_getElem? (i := 906) rfl), rfl⟩
set_option maxRecDepth 100000 in
theorem w_907 : mp_w (Jvm.Cond.methodLink "ScriptDesk" (103 : Nat) ({ cls := "ScriptDesk$Thing", name := "toNumber", desc := "()J" } : Jvm.MethodName)) := ⟨List.mem_append_right _ (List.mem_of_getElem? (i := 907) rfl), rfl⟩
set_option maxRecDepth 100000 in
theorem w_908 : mp_w (Jvm.Cond.methodLink "ScriptDeskLaw" (79 : Nat) ({ cls := "ScriptDeskLaw", name := "sigs", desc := "(LScriptDesk;I[J)I" } : Jvm.MethodName)) := ⟨List.mem_append_right _ (List.mem_of_getElem? (i := 908) rfl), rfl⟩
set_option maxRecDepth 100000 in
theorem w_909 : mp_w (Jvm.Cond.static ({ cls := "ScriptDeskLaw", name := "sigs", desc := "(LScriptDesk;I[J)I" } : Jvm.MethodName)) := ⟨List.mem_append_right _ (List.mem_of_getElem? (i := 909) rfl), rfl⟩
set_option maxRecDepth 100000 in
theorem w_910 : mp_w (Jvm.Cond.codeWith ({ cls := "ScriptDeskLaw", name := "sigs", desc := "(LScriptDesk;I[J)I" } : Jvm.MethodName) method_9_code (4 : Nat) (Option.some Jvm.ClassFile.FieldType.int) [((0 : Nat), (9 : Nat), (12 : Nat), (19 : Nat))]) := ⟨List.mem_append_right _ (List.mem_of_getElem? (i := 910) rfl), rfl⟩
set_option maxRecDepth 100000 in
theorem w_911 : mp_w (Jvm.Cond.methodLink "ScriptDeskLaw" (38 : Nat) ({ cls := "ScriptDesk", name := "sigs", desc := "(I)I" } : Jvm.MethodName)) := ⟨List.mem_append_right _ (List.mem_of_getElem? (i := 911) rfl), rfl⟩
set_option maxRecDepth 100000 in
theorem w_912 : mp_w (Jvm.Cond.instanceMethod ({ cls := "ScriptDesk", name := "sigs", desc := "(I)I" } : Jvm.MethodName)) := ⟨List.mem_append_right _ (List.mem_of_getElem? (i := 912) rfl), rfl⟩
set_option maxRecDepth 100000 in
theorem w_913 : mp_w (Jvm.Cond.selects "ScriptDesk" ({ cls := "ScriptDesk", name := "sigs", desc := "(I)I" } : Jvm.MethodName) ({ cls := "ScriptDesk", name := "sigs", desc := "(I)I" } : Jvm.MethodName)) := ⟨List.mem_append_right _ (List.mem_of_getElem? (i := 913) rfl), rfl⟩
set_option maxRecDepth 100000 in
theorem w_914 : mp_w (Jvm.Cond.code ({ cls := "ScriptDesk", name := "sigs", desc := "(I)I" } : Jvm.MethodName) prog_1_method_9_code (4 : Nat) (Option.some Jvm.ClassFile.FieldType.int)) := ⟨List.mem_append_right _ (List.mem_of_getElem? (i := 914) rfl), rfl⟩
set_option maxRecDepth 100000 in
theorem w_915 : mp_w (Jvm.Cond.methodLink "ScriptDesk" (107 : Nat) ({ cls := "ScriptDesk", name := "sigsOf", desc := "(I)I" } : Jvm.MethodName)) := ⟨List.mem_append_right _ (List.mem_of_getElem? (i := 915) rfl), rfl⟩
set_option maxRecDepth 100000 in
theorem w_916 : mp_w (Jvm.Cond.static ({ cls := "ScriptDesk", name := "sigsOf", desc := "(I)I" } : Jvm.MethodName)) := ⟨List.mem_append_right _ (List.mem_of_getElem? (i := 916) rfl), rfl⟩
set_option maxRecDepth 100000 in
theorem w_917 : mp_w (Jvm.Cond.code ({ cls := "ScriptDesk", name := "sigsOf", desc := "(I)I" } : Jvm.MethodName) prog_1_method_13_code (1 : Nat) (Option.some Jvm.ClassFile.FieldType.int)) := ⟨List.mem_append_right _ (List.mem_of_getElem? (i := 917) rfl), rfl⟩
set_option maxRecDepth 100000 in
theorem w_918 : mp_w (Jvm.Cond.methodLink "ScriptDesk" (110 : Nat) ({ cls := "ScriptDesk$Code", name := "carried", desc := "([BII)I" } : Jvm.MethodName)) := ⟨List.mem_append_right _ (List.mem_of_getElem? (i := 918) rfl), rfl⟩
set_option maxRecDepth 100000 in
theorem w_919 : mp_w (Jvm.Cond.methodLink "ScriptDeskLaw" (82 : Nat) ({ cls := "ScriptDeskLaw", name := "hash", desc := "(LScriptDesk;II[J)I" } : Jvm.MethodName)) := ⟨List.mem_append_right _ (List.mem_of_getElem? (i := 919) rfl), rfl⟩
set_option maxRecDepth 100000 in
theorem w_920 : mp_w (Jvm.Cond.static ({ cls := "ScriptDeskLaw", name := "hash", desc := "(LScriptDesk;II[J)I" } : Jvm.MethodName)) := ⟨List.mem_append_right _ (List.mem_of_getElem? (i := 920) rfl), rfl⟩
set_option maxRecDepth 100000 in
theorem w_921 : mp_w (Jvm.Cond.codeWith ({ cls := "ScriptDeskLaw", name := "hash", desc := "(LScriptDesk;II[J)I" } : Jvm.MethodName) method_10_code (5 : Nat) (Option.some Jvm.ClassFile.FieldType.int) [((0 : Nat), (10 : Nat), (13 : Nat), (19 : Nat))]) := ⟨List.mem_append_right _ (List.mem_of_getElem? (i := 921) rfl), rfl⟩
set_option maxRecDepth 100000 in
theorem w_922 : mp_w (Jvm.Cond.methodLink "ScriptDeskLaw" (41 : Nat) ({ cls := "ScriptDesk", name := "hash", desc := "(II)I" } : Jvm.MethodName)) := ⟨List.mem_append_right _ (List.mem_of_getElem? (i := 922) rfl), rfl⟩
set_option maxRecDepth 100000 in
theorem w_923 : mp_w (Jvm.Cond.instanceMethod ({ cls := "ScriptDesk", name := "hash", desc := "(II)I" } : Jvm.MethodName)) := ⟨List.mem_append_right _ (List.mem_of_getElem? (i := 923) rfl), rfl⟩
set_option maxRecDepth 100000 in
theorem w_924 : mp_w (Jvm.Cond.selects "ScriptDesk" ({ cls := "ScriptDesk", name := "hash", desc := "(II)I" } : Jvm.MethodName) ({ cls := "ScriptDesk", name := "hash", desc := "(II)I" } : Jvm.MethodName)) := ⟨List.mem_append_right _ (List.mem_of_getElem? (i := 924) rfl), rfl⟩
set_option maxRecDepth 100000 in
theorem w_925 : mp_w (Jvm.Cond.code ({ cls := "ScriptDesk", name := "hash", desc := "(II)I" } : Jvm.MethodName) prog_1_method_10_code (3 : Nat) (Option.some Jvm.ClassFile.FieldType.int)) := ⟨List.mem_append_right _ (List.mem_of_getElem? (i := 925) rfl), rfl⟩
set_option maxRecDepth 100000 in
theorem w_926 : mp_w (Jvm.Cond.methodLink "ScriptDesk" (116 : Nat) ({ cls := "ScriptDesk", name := "sumOfRow", desc := "(I)LScriptDesk$Thing;" } : Jvm.MethodName)) := ⟨List.mem_append_right _ (List.mem_of_getElem? (i := 926) rfl), rfl⟩
set_option maxRecDepth 100000 in
theorem w_928 : mp_w (Jvm.Cond.instanceMethod ({ cls := "ScriptDesk", name := "sumOfRow", desc := "(I)LScriptDesk$Thing;" } : Jvm.MethodName)) := ⟨List.mem_append_right _ (List.mem_of_getElem? (i := 928) rfl), rfl⟩
set_option maxRecDepth 100000 in
theorem w_929 : mp_w (Jvm.Cond.code ({ cls := "ScriptDesk", name := "sumOfRow", desc := "(I)LScriptDesk$Thing;" } : Jvm.MethodName) prog_1_method_14_code (3 : Nat) (Option.some (Jvm.ClassFile.FieldType.object "ScriptDesk$Thing"))) := ⟨List.mem_append_right _ (List.mem_of_getElem? (i := 929) rfl), rfl⟩
set_option maxRecDepth 100000 in
theorem w_930 : mp_w (Jvm.Cond.methodLink "ScriptDesk" (122 : Nat) ({ cls := "ScriptDesk$Sum", name := "of", desc := "([BI)LScriptDesk$Thing;" } : Jvm.MethodName)) := ⟨List.mem_append_right _ (List.mem_of_getElem? (i := 930) rfl), rfl⟩
set_option maxRecDepth 100000 in
theorem w_931 : mp_w (Jvm.Cond.methodLink "ScriptDesk" (119 : Nat) ({ cls := "ScriptDesk$Thing", name := "word", desc := "(I)I" } : Jvm.MethodName)) := ⟨List.mem_append_right _ (List.mem_of_getElem? (i := 931) rfl), rfl⟩
set_option maxRecDepth 100000 in
theorem w_932 : mp_w (Jvm.Cond.instanceMethod ({ cls := "ScriptDesk$Thing", name := "word", desc := "(I)I" } : Jvm.MethodName)) := ⟨List.mem_append_right _ (List.mem_of_getElem? (i := 932) rfl), rfl⟩
set_option maxRecDepth 100000 in
theorem w_933 : mp_w (Jvm.Cond.selects "ScriptDesk$Thing" ({ cls := "ScriptDesk$Thing", name := "word", desc := "(I)I" } : Jvm.MethodName) ({ cls := "ScriptDesk$Thing", name := "word", desc := "(I)I" } : Jvm.MethodName)) := ⟨List.mem_append_right _ (List.mem_of_getElem? (i := 933) rfl), rfl⟩
set_option maxRecDepth 100000 in
theorem w_934 : mp_w (Jvm.Cond.code ({ cls := "ScriptDesk$Thing", name := "word", desc := "(I)I" } : Jvm.MethodName) prog_9_method_6_code (4 : Nat) (Option.some Jvm.ClassFile.FieldType.int)) := ⟨List.mem_append_right _ (List.mem_of_getElem? (i := 934) rfl), rfl⟩
set_option maxRecDepth 100000 in
theorem w_935 : mp_w (Jvm.Cond.classLink "ScriptDeskLaw" (45 : Nat) "ScriptDeskModel") := ⟨List.mem_append_right _ (List.mem_of_getElem? (i := 935) rfl), rfl⟩
set_option maxRecDepth 100000 in
theorem w_936 : mp_w (Jvm.Cond.instantiable "ScriptDeskModel" (15 : Nat)) := ⟨List.mem_append_right _ (List.mem_of_getElem? (i := 936) rfl), rfl⟩
set_option maxRecDepth 100000 in
theorem w_937 : mp_w (Jvm.Cond.methodLink "ScriptDeskLaw" (47 : Nat) ({ cls := "ScriptDeskModel", name := "<init>", desc := "()V" } : Jvm.MethodName)) := ⟨List.mem_append_right _ (List.mem_of_getElem? (i := 937) rfl), rfl⟩
set_option maxRecDepth 100000 in
theorem w_938 : mp_w (Jvm.Cond.instanceMethod ({ cls := "ScriptDeskModel", name := "<init>", desc := "()V" } : Jvm.MethodName)) := ⟨List.mem_append_right _ (List.mem_of_getElem? (i := 938) rfl), rfl⟩
set_option maxRecDepth 100000 in
theorem w_939 : mp_w (Jvm.Cond.code ({ cls := "ScriptDeskModel", name := "<init>", desc := "()V" } : Jvm.MethodName) prog_11_method_1_code (1 : Nat) (Option.none : Option Jvm.ClassFile.FieldType)) := ⟨List.mem_append_right _ (List.mem_of_getElem? (i := 939) rfl), rfl⟩
set_option maxRecDepth 100000 in
theorem w_940 : mp_w (Jvm.Cond.methodLink "ScriptDeskModel" (1 : Nat) ({ cls := "java/lang/Object", name := "<init>", desc := "()V" } : Jvm.MethodName)) := ⟨List.mem_append_right _ (List.mem_of_getElem? (i := 940) rfl), rfl⟩
set_option maxRecDepth 100000 in
theorem w_941 : mp_w (Jvm.Cond.constant "ScriptDeskModel" (13 : Nat) (51456 : Int32)) := ⟨List.mem_append_right _ (List.mem_of_getElem? (i := 941) rfl), rfl⟩
set_option maxRecDepth 100000 in
theorem w_942 : mp_w (Jvm.Cond.constant "ScriptDeskModel" (33 : Nat) (104448 : Int32)) := ⟨List.mem_append_right _ (List.mem_of_getElem? (i := 942) rfl), rfl⟩
set_option maxRecDepth 100000 in
theorem w_943 : mp_w (Jvm.Cond.fieldLink "ScriptDeskModel" (9 : Nat) "ScriptDeskModel" "row" "[B") := ⟨List.mem_append_right _ (List.mem_of_getElem? (i := 943) rfl), rfl⟩
set_option maxRecDepth 100000 in
theorem w_944 : mp_w (Jvm.Cond.fieldLink "ScriptDeskModel" (179 : Nat) "ScriptDeskModel" "rows" "I") := ⟨List.mem_append_right _ (List.mem_of_getElem? (i := 944) rfl), rfl⟩
set_option maxRecDepth 100000 in
theorem w_945 : mp_w (Jvm.Cond.fieldLink "ScriptDeskModel" (44 : Nat) "ScriptDeskModel" "thrown" "I") := ⟨List.mem_append_right _ (List.mem_of_getElem? (i := 945) rfl), rfl⟩
set_option maxRecDepth 100000 in
theorem w_946 : mp_w (Jvm.Cond.fieldLink "ScriptDeskModel" (14 : Nat) "ScriptDeskModel" "kept" "[B") := ⟨List.mem_append_right _ (List.mem_of_getElem? (i := 946) rfl), rfl⟩
set_option maxRecDepth 100000 in
theorem w_947 : mp_w (Jvm.Cond.fieldLink "ScriptDeskModel" (17 : Nat) "ScriptDeskModel" "keptSize" "[I") := ⟨List.mem_append_right _ (List.mem_of_getElem? (i := 947) rfl), rfl⟩
set_option maxRecDepth 100000 in
theorem w_948 : mp_w (Jvm.Cond.fieldLink "ScriptDeskModel" (21 : Nat) "ScriptDeskModel" "s" "[I") := ⟨List.mem_append_right _ (List.mem_of_getElem? (i := 948) rfl), rfl⟩
set_option maxRecDepth 100000 in
theorem w_949 : mp_w (Jvm.Cond.fieldLink "ScriptDeskModel" (24 : Nat) "ScriptDeskModel" "w" "[I") := ⟨List.mem_append_right _ (List.mem_of_getElem? (i := 949) rfl), rfl⟩
set_option maxRecDepth 100000 in
theorem w_950 : mp_w (Jvm.Cond.fieldLink "ScriptDeskModel" (27 : Nat) "ScriptDeskModel" "hash" "[B") := ⟨List.mem_append_right _ (List.mem_of_getElem? (i := 950) rfl), rfl⟩
set_option maxRecDepth 100000 in
theorem w_951 : mp_w (Jvm.Cond.fieldLink "ScriptDeskModel" (30 : Nat) "ScriptDeskModel" "padded" "[B") := ⟨List.mem_append_right _ (List.mem_of_getElem? (i := 951) rfl), rfl⟩
set_option maxRecDepth 100000 in
theorem w_952 : mp_w (Jvm.Cond.fieldLink "ScriptDeskModel" (34 : Nat) "ScriptDeskModel" "thing" "[B") := ⟨List.mem_append_right _ (List.mem_of_getElem? (i := 952) rfl), rfl⟩
set_option maxRecDepth 100000 in
theorem w_953 : mp_w (Jvm.Cond.fieldLink "ScriptDeskModel" (37 : Nat) "ScriptDeskModel" "size" "[I") := ⟨List.mem_append_right _ (List.mem_of_getElem? (i := 953) rfl), rfl⟩
set_option maxRecDepth 100000 in
theorem w_954 : mp_w (Jvm.Cond.fieldLink "ScriptDeskModel" (100 : Nat) "ScriptDeskModel" "deep" "I") := ⟨List.mem_append_right _ (List.mem_of_getElem? (i := 954) rfl), rfl⟩
set_option maxRecDepth 100000 in
theorem w_955 : mp_w (Jvm.Cond.fieldLink "ScriptDeskModel" (111 : Nat) "ScriptDeskModel" "aside" "I") := ⟨List.mem_append_right _ (List.mem_of_getElem? (i := 955) rfl), rfl⟩
set_option maxRecDepth 100000 in
theorem w_956 : mp_w (Jvm.Cond.fieldLink "ScriptDeskModel" (114 : Nat) "ScriptDeskModel" "ops" "I") := ⟨List.mem_append_right _ (List.mem_of_getElem? (i := 956) rfl), rfl⟩
set_option maxRecDepth 100000 in
theorem w_957 : mp_w (Jvm.Cond.fieldLink "ScriptDeskModel" (40 : Nat) "ScriptDeskModel" "taken" "[Z") := ⟨List.mem_append_right _ (List.mem_of_getElem? (i := 957) rfl), rfl⟩
set_option maxRecDepth 100000 in
theorem w_958 : mp_w (Jvm.Cond.laysFinal "ScriptDeskModel" "ScriptDeskModel" "row" "[B") := ⟨List.mem_append_right _ (List.mem_of_getElem? (i := 958) rfl), rfl⟩
set_option maxRecDepth 100000 in
theorem w_960 : mp_w (Jvm.Cond.lays "ScriptDeskModel" "ScriptDeskModel" "rows" "I") := ⟨List.mem_append_right _ (List.mem_of_getElem? (i := 960) rfl), rfl⟩
set_option maxRecDepth 100000 in
theorem w_962 : mp_w (Jvm.Cond.lays "ScriptDeskModel" "ScriptDeskModel" "thrown" "I") := ⟨List.mem_append_right _ (List.mem_of_getElem? (i := 962) rfl), rfl⟩
set_option maxRecDepth 100000 in
theorem w_964 : mp_w (Jvm.Cond.laysFinal "ScriptDeskModel" "ScriptDeskModel" "kept" "[B") := ⟨List.mem_append_right _ (List.mem_of_getElem? (i := 964) rfl), rfl⟩
set_option maxRecDepth 100000 in
theorem w_966 : mp_w (Jvm.Cond.laysFinal "ScriptDeskModel" "ScriptDeskModel" "keptSize" "[I") := ⟨List.mem_append_right _ (List.mem_of_getElem? (i := 966) rfl), rfl⟩
set_option maxRecDepth 100000 in
theorem w_968 : mp_w (Jvm.Cond.laysFinal "ScriptDeskModel" "ScriptDeskModel" "s" "[I") := ⟨List.mem_append_right _ (List.mem_of_getElem? (i := 968) rfl), rfl⟩
set_option maxRecDepth 100000 in
theorem w_970 : mp_w (Jvm.Cond.laysFinal "ScriptDeskModel" "ScriptDeskModel" "w" "[I") := ⟨List.mem_append_right _ (List.mem_of_getElem? (i := 970) rfl), rfl⟩
set_option maxRecDepth 100000 in
theorem w_972 : mp_w (Jvm.Cond.laysFinal "ScriptDeskModel" "ScriptDeskModel" "hash" "[B") := ⟨List.mem_append_right _ (List.mem_of_getElem? (i := 972) rfl), rfl⟩
set_option maxRecDepth 100000 in
theorem w_974 : mp_w (Jvm.Cond.laysFinal "ScriptDeskModel" "ScriptDeskModel" "padded" "[B") := ⟨List.mem_append_right _ (List.mem_of_getElem? (i := 974) rfl), rfl⟩
set_option maxRecDepth 100000 in
theorem w_976 : mp_w (Jvm.Cond.laysFinal "ScriptDeskModel" "ScriptDeskModel" "thing" "[B") := ⟨List.mem_append_right _ (List.mem_of_getElem? (i := 976) rfl), rfl⟩
set_option maxRecDepth 100000 in
theorem w_978 : mp_w (Jvm.Cond.laysFinal "ScriptDeskModel" "ScriptDeskModel" "size" "[I") := ⟨List.mem_append_right _ (List.mem_of_getElem? (i := 978) rfl), rfl⟩
set_option maxRecDepth 100000 in
theorem w_980 : mp_w (Jvm.Cond.lays "ScriptDeskModel" "ScriptDeskModel" "deep" "I") := ⟨List.mem_append_right _ (List.mem_of_getElem? (i := 980) rfl), rfl⟩
set_option maxRecDepth 100000 in
theorem w_982 : mp_w (Jvm.Cond.lays "ScriptDeskModel" "ScriptDeskModel" "aside" "I") := ⟨List.mem_append_right _ (List.mem_of_getElem? (i := 982) rfl), rfl⟩
set_option maxRecDepth 100000 in
theorem w_984 : mp_w (Jvm.Cond.lays "ScriptDeskModel" "ScriptDeskModel" "ops" "I") := ⟨List.mem_append_right _ (List.mem_of_getElem? (i := 984) rfl), rfl⟩
set_option maxRecDepth 100000 in
theorem w_986 : mp_w (Jvm.Cond.laysFinal "ScriptDeskModel" "ScriptDeskModel" "taken" "[Z") := ⟨List.mem_append_right _ (List.mem_of_getElem? (i := 986) rfl), rfl⟩
set_option maxRecDepth 100000 in
theorem w_988 : mp_w (Jvm.Cond.superclass "ScriptDeskModel" "java/lang/Object") := ⟨List.mem_append_right _ (List.mem_of_getElem? (i := 988) rfl), rfl⟩
set_option maxRecDepth 100000 in
theorem w_989 : mp_w (Jvm.Cond.arrayClass Jvm.ClassFile.FieldType.boolean) := ⟨List.mem_append_right _ (List.mem_of_getElem? (i := 989) rfl), rfl⟩
set_option maxRecDepth 100000 in
theorem w_990 : mp_w (Jvm.Cond.methodLink "ScriptDeskLaw" (54 : Nat) ({ cls := "ScriptDeskModel", name := "thrown", desc := "()I" } : Jvm.MethodName)) := ⟨List.mem_append_right _ (List.mem_of_getElem? (i := 990) rfl), rfl⟩
set_option maxRecDepth 100000 in
theorem w_991 : mp_w (Jvm.Cond.instanceMethod ({ cls := "ScriptDeskModel", name := "thrown", desc := "()I" } : Jvm.MethodName)) := ⟨List.mem_append_right _ (List.mem_of_getElem? (i := 991) rfl), rfl⟩
set_option maxRecDepth 100000 in
theorem w_992 : mp_w (Jvm.Cond.selects "ScriptDeskModel" ({ cls := "ScriptDeskModel", name := "thrown", desc := "()I" } : Jvm.MethodName) ({ cls := "ScriptDeskModel", name := "thrown", desc := "()I" } : Jvm.MethodName)) := ⟨List.mem_append_right _ (List.mem_of_getElem? (i := 992) rfl), rfl⟩
set_option maxRecDepth 100000 in
theorem w_993 : mp_w (Jvm.Cond.code ({ cls := "ScriptDeskModel", name := "thrown", desc := "()I" } : Jvm.MethodName) prog_11_method_2_code (1 : Nat) (Option.some Jvm.ClassFile.FieldType.int)) := ⟨List.mem_append_right _ (List.mem_of_getElem? (i := 993) rfl), rfl⟩
set_option maxRecDepth 100000 in
theorem w_994 : mp_w (Jvm.Cond.methodLink "ScriptDeskLaw" (53 : Nat) ({ cls := "ScriptDeskModel", name := "feed", desc := "(IIIII)I" } : Jvm.MethodName)) := ⟨List.mem_append_right _ (List.mem_of_getElem? (i := 994) rfl), rfl⟩
set_option maxRecDepth 100000 in
theorem w_995 : mp_w (Jvm.Cond.instanceMethod ({ cls := "ScriptDeskModel", name := "feed", desc := "(IIIII)I" } : Jvm.MethodName)) := ⟨List.mem_append_right _ (List.mem_of_getElem? (i := 995) rfl), rfl⟩
set_option maxRecDepth 100000 in
theorem w_996 : mp_w (Jvm.Cond.selects "ScriptDeskModel" ({ cls := "ScriptDeskModel", name := "feed", desc := "(IIIII)I" } : Jvm.MethodName) ({ cls := "ScriptDeskModel", name := "feed", desc := "(IIIII)I" } : Jvm.MethodName)) := ⟨List.mem_append_right _ (List.mem_of_getElem? (i := 996) rfl), rfl⟩
set_option maxRecDepth 100000 in
theorem w_997 : mp_w (Jvm.Cond.code ({ cls := "ScriptDeskModel", name := "feed", desc := "(IIIII)I" } : Jvm.MethodName) prog_11_method_26_code (6 : Nat) (Option.some Jvm.ClassFile.FieldType.int)) := ⟨List.mem_append_right _ (List.mem_of_getElem? (i := 997) rfl), rfl⟩
set_option maxRecDepth 100000 in
theorem w_998 : mp_w (Jvm.Cond.methodLink "ScriptDeskModel" (182 : Nat) ({ cls := "ScriptDeskModel", name := "four", desc := "(I)V" } : Jvm.MethodName)) := ⟨List.mem_append_right _ (List.mem_of_getElem? (i := 998) rfl), rfl⟩
set_option maxRecDepth 100000 in
theorem w_1000 : mp_w (Jvm.Cond.instanceMethod ({ cls := "ScriptDeskModel", name := "four", desc := "(I)V" } : Jvm.MethodName)) := ⟨List.mem_append_right _ (List.mem_of_getElem? (i := 1000) rfl), rfl⟩
set_option maxRecDepth 100000 in
theorem w_1001 : mp_w (Jvm.Cond.code ({ cls := "ScriptDeskModel", name := "four", desc := "(I)V" } : Jvm.MethodName) prog_11_method_27_code (3 : Nat) (Option.none : Option Jvm.ClassFile.FieldType)) := ⟨List.mem_append_right _ (List.mem_of_getElem? (i := 1001) rfl), rfl⟩
set_option maxRecDepth 100000 in
theorem w_1002 : mp_w (Jvm.Cond.methodLink "ScriptDeskLaw" (61 : Nat) ({ cls := "ScriptDeskModel", name := "end", desc := "(I)I" } : Jvm.MethodName)) := ⟨List.mem_append_right _ (List.mem_of_getElem? (i := 1002) rfl), rfl⟩
set_option maxRecDepth 100000 in
theorem w_1003 : mp_w (Jvm.Cond.instanceMethod ({ cls := "ScriptDeskModel", name := "end", desc := "(I)I" } : Jvm.MethodName)) := ⟨List.mem_append_right _ (List.mem_of_getElem? (i := 1003) rfl), rfl⟩
set_option maxRecDepth 100000 in
theorem w_1004 : mp_w (Jvm.Cond.selects "ScriptDeskModel" ({ cls := "ScriptDeskModel", name := "end", desc := "(I)I" } : Jvm.MethodName) ({ cls := "ScriptDeskModel", name := "end", desc := "(I)I" } : Jvm.MethodName)) := ⟨List.mem_append_right _ (List.mem_of_getElem? (i := 1004) rfl), rfl⟩
set_option maxRecDepth 100000 in
theorem w_1005 : mp_w (Jvm.Cond.code ({ cls := "ScriptDeskModel", name := "end", desc := "(I)I" } : Jvm.MethodName) prog_11_method_29_code (2 : Nat) (Option.some Jvm.ClassFile.FieldType.int)) := ⟨List.mem_append_right _ (List.mem_of_getElem? (i := 1005) rfl), rfl⟩
set_option maxRecDepth 100000 in
theorem w_1006 : mp_w (Jvm.Cond.methodLink "ScriptDeskModel" (186 : Nat) ({ cls := "ScriptDeskModel", name := "isLength", desc := "(I)Z" } : Jvm.MethodName)) := ⟨List.mem_append_right _ (List.mem_of_getElem? (i := 1006) rfl), rfl⟩
set_option maxRecDepth 100000 in
theorem w_1008 : mp_w (Jvm.Cond.instanceMethod ({ cls := "ScriptDeskModel", name := "isLength", desc := "(I)Z" } : Jvm.MethodName)) := ⟨List.mem_append_right _ (List.mem_of_getElem? (i := 1008) rfl), rfl⟩
set_option maxRecDepth 100000 in
theorem w_1009 : mp_w (Jvm.Cond.code ({ cls := "ScriptDeskModel", name := "isLength", desc := "(I)Z" } : Jvm.MethodName) prog_11_method_28_code (2 : Nat) (Option.some Jvm.ClassFile.FieldType.boolean)) := ⟨List.mem_append_right _ (List.mem_of_getElem? (i := 1009) rfl), rfl⟩
set_option maxRecDepth 100000 in
theorem w_1010 : mp_w (Jvm.Cond.methodLink "ScriptDeskLaw" (64 : Nat) ({ cls := "ScriptDeskModel", name := "run", desc := "(I)I" } : Jvm.MethodName)) := ⟨List.mem_append_right _ (List.mem_of_getElem? (i := 1010) rfl), rfl⟩
set_option maxRecDepth 100000 in
theorem w_1011 : mp_w (Jvm.Cond.instanceMethod ({ cls := "ScriptDeskModel", name := "run", desc := "(I)I" } : Jvm.MethodName)) := ⟨List.mem_append_right _ (List.mem_of_getElem? (i := 1011) rfl), rfl⟩
set_option maxRecDepth 100000 in
theorem w_1012 : mp_w (Jvm.Cond.selects "ScriptDeskModel" ({ cls := "ScriptDeskModel", name := "run", desc := "(I)I" } : Jvm.MethodName) ({ cls := "ScriptDeskModel", name := "run", desc := "(I)I" } : Jvm.MethodName)) := ⟨List.mem_append_right _ (List.mem_of_getElem? (i := 1012) rfl), rfl⟩
set_option maxRecDepth 100000 in
theorem w_1013 : mp_w (Jvm.Cond.code ({ cls := "ScriptDeskModel", name := "run", desc := "(I)I" } : Jvm.MethodName) prog_11_method_30_code (4 : Nat) (Option.some Jvm.ClassFile.FieldType.int)) := ⟨List.mem_append_right _ (List.mem_of_getElem? (i := 1013) rfl), rfl⟩
set_option maxRecDepth 100000 in
theorem w_1014 : mp_w (Jvm.Cond.methodLink "ScriptDeskModel" (48 : Nat) ({ cls := "java/lang/System", name := "arraycopy", desc := "(Ljava/lang/Object;ILjava/lang/Object;II)V" } : Jvm.MethodName)) := ⟨List.mem_append_right _ (List.mem_of_getElem? (i := 1014) rfl), rfl⟩
set_option maxRecDepth 100000 in
theorem w_1015 : mp_w (Jvm.Cond.methodLink "ScriptDeskModel" (189 : Nat) ({ cls := "ScriptDeskModel", name := "run", desc := "([BII)Z" } : Jvm.MethodName)) := ⟨List.mem_append_right _ (List.mem_of_getElem? (i := 1015) rfl), rfl⟩
set_option maxRecDepth 100000 in
theorem w_1017 : mp_w (Jvm.Cond.instanceMethod ({ cls := "ScriptDeskModel", name := "run", desc := "([BII)Z" } : Jvm.MethodName)) := ⟨List.mem_append_right _ (List.mem_of_getElem? (i := 1017) rfl), rfl⟩
set_option maxRecDepth 100000 in
theorem w_1018 : mp_w (Jvm.Cond.code ({ cls := "ScriptDeskModel", name := "run", desc := "([BII)Z" } : Jvm.MethodName) prog_11_method_18_code (9 : Nat) (Option.some Jvm.ClassFile.FieldType.boolean)) := ⟨List.mem_append_right _ (List.mem_of_getElem? (i := 1018) rfl), rfl⟩
set_option maxRecDepth 100000 in
theorem w_1019 : mp_w (Jvm.Cond.methodLink "ScriptDeskModel" (117 : Nat) ({ cls := "ScriptDeskModel", name := "push", desc := "([BII)V" } : Jvm.MethodName)) := ⟨List.mem_append_right _ (List.mem_of_getElem? (i := 1019) rfl), rfl⟩
set_option maxRecDepth 100000 in
theorem w_1021 : mp_w (Jvm.Cond.instanceMethod ({ cls := "ScriptDeskModel", name := "push", desc := "([BII)V" } : Jvm.MethodName)) := ⟨List.mem_append_right _ (List.mem_of_getElem? (i := 1021) rfl), rfl⟩
set_option maxRecDepth 100000 in
theorem w_1022 : mp_w (Jvm.Cond.code ({ cls := "ScriptDeskModel", name := "push", desc := "([BII)V" } : Jvm.MethodName) prog_11_method_11_code (4 : Nat) (Option.none : Option Jvm.ClassFile.FieldType)) := ⟨List.mem_append_right _ (List.mem_of_getElem? (i := 1022) rfl), rfl⟩
set_option maxRecDepth 100000 in
theorem w_1023 : mp_w (Jvm.Cond.methodLink "ScriptDeskModel" (121 : Nat) ({ cls := "ScriptDeskModel", name := "isTrue", desc := "(I)Z" } : Jvm.MethodName)) := ⟨List.mem_append_right _ (List.mem_of_getElem? (i := 1023) rfl), rfl⟩
set_option maxRecDepth 100000 in
theorem w_1025 : mp_w (Jvm.Cond.instanceMethod ({ cls := "ScriptDeskModel", name := "isTrue", desc := "(I)Z" } : Jvm.MethodName)) := ⟨List.mem_append_right _ (List.mem_of_getElem? (i := 1025) rfl), rfl⟩
set_option maxRecDepth 100000 in
theorem w_1026 : mp_w (Jvm.Cond.code ({ cls := "ScriptDeskModel", name := "isTrue", desc := "(I)Z" } : Jvm.MethodName) prog_11_method_14_code (3 : Nat) (Option.some Jvm.ClassFile.FieldType.boolean)) := ⟨List.mem_append_right _ (List.mem_of_getElem? (i := 1026) rfl), rfl⟩
set_option maxRecDepth 100000 in
theorem w_1027 : mp_w (Jvm.Cond.methodLink "ScriptDeskModel" (125 : Nat) ({ cls := "ScriptDeskModel", name := "isDone", desc := "(I)Z" } : Jvm.MethodName)) := ⟨List.mem_append_right _ (List.mem_of_getElem? (i := 1027) rfl), rfl⟩
set_option maxRecDepth 100000 in
theorem w_1029 : mp_w (Jvm.Cond.instanceMethod ({ cls := "ScriptDeskModel", name := "isDone", desc := "(I)Z" } : Jvm.MethodName)) := ⟨List.mem_append_right _ (List.mem_of_getElem? (i := 1029) rfl), rfl⟩
set_option maxRecDepth 100000 in
theorem w_1030 : mp_w (Jvm.Cond.code ({ cls := "ScriptDeskModel", name := "isDone", desc := "(I)Z" } : Jvm.MethodName) prog_11_method_20_code (4 : Nat) (Option.some Jvm.ClassFile.FieldType.boolean)) := ⟨List.mem_append_right _ (List.mem_of_getElem? (i := 1030) rfl), rfl⟩
set_option maxRecDepth 100000 in
theorem w_1031 : mp_w (Jvm.Cond.methodLink "ScriptDeskModel" (103 : Nat) ({ cls := "ScriptDeskModel", name := "pushNumber", desc := "(J)V" } : Jvm.MethodName)) := ⟨List.mem_append_right _ (List.mem_of_getElem? (i := 1031) rfl), rfl⟩
set_option maxRecDepth 100000 in
theorem w_1033 : mp_w (Jvm.Cond.instanceMethod ({ cls := "ScriptDeskModel", name := "pushNumber", desc := "(J)V" } : Jvm.MethodName)) := ⟨List.mem_append_right _ (List.mem_of_getElem? (i := 1033) rfl), rfl⟩
set_option maxRecDepth 100000 in
theorem w_1034 : mp_w (Jvm.Cond.code ({ cls := "ScriptDeskModel", name := "pushNumber", desc := "(J)V" } : Jvm.MethodName) prog_11_method_12_code (7 : Nat) (Option.none : Option Jvm.ClassFile.FieldType)) := ⟨List.mem_append_right _ (List.mem_of_getElem? (i := 1034) rfl), rfl⟩
set_option maxRecDepth 100000 in
theorem w_1035 : mp_w (Jvm.Cond.methodLink "ScriptDeskModel" (128 : Nat) ({ cls := "ScriptDeskModel", name := "isArithmetic", desc := "(I)Z" } : Jvm.MethodName)) := ⟨List.mem_append_right _ (List.mem_of_getElem? (i := 1035) rfl), rfl⟩
set_option maxRecDepth 100000 in
theorem w_1037 : mp_w (Jvm.Cond.instanceMethod ({ cls := "ScriptDeskModel", name := "isArithmetic", desc := "(I)Z" } : Jvm.MethodName)) := ⟨List.mem_append_right _ (List.mem_of_getElem? (i := 1037) rfl), rfl⟩
set_option maxRecDepth 100000 in
theorem w_1038 : mp_w (Jvm.Cond.code ({ cls := "ScriptDeskModel", name := "isArithmetic", desc := "(I)Z" } : Jvm.MethodName) prog_11_method_23_code (11 : Nat) (Option.some Jvm.ClassFile.FieldType.boolean)) := ⟨List.mem_append_right _ (List.mem_of_getElem? (i := 1038) rfl), rfl⟩
set_option maxRecDepth 100000 in
theorem w_1039 : mp_w (Jvm.Cond.methodLink "ScriptDeskModel" (131 : Nat) ({ cls := "ScriptDeskModel", name := "has", desc := "(I)Z" } : Jvm.MethodName)) := ⟨List.mem_append_right _ (List.mem_of_getElem? (i := 1039) rfl), rfl⟩
set_option maxRecDepth 100000 in
theorem w_1041 : mp_w (Jvm.Cond.instanceMethod ({ cls := "ScriptDeskModel", name := "has", desc := "(I)Z" } : Jvm.MethodName)) := ⟨List.mem_append_right _ (List.mem_of_getElem? (i := 1041) rfl), rfl⟩
set_option maxRecDepth 100000 in
theorem w_1042 : mp_w (Jvm.Cond.code ({ cls := "ScriptDeskModel", name := "has", desc := "(I)Z" } : Jvm.MethodName) prog_11_method_19_code (2 : Nat) (Option.some Jvm.ClassFile.FieldType.boolean)) := ⟨List.mem_append_right _ (List.mem_of_getElem? (i := 1042) rfl), rfl⟩
set_option maxRecDepth 100000 in
theorem w_1043 : mp_w (Jvm.Cond.methodLink "ScriptDeskModel" (149 : Nat) ({ cls := "ScriptDeskModel", name := "isNumber", desc := "(I)Z" } : Jvm.MethodName)) := ⟨List.mem_append_right _ (List.mem_of_getElem? (i := 1043) rfl), rfl⟩
set_option maxRecDepth 100000 in
theorem w_1045 : mp_w (Jvm.Cond.instanceMethod ({ cls := "ScriptDeskModel", name := "isNumber", desc := "(I)Z" } : Jvm.MethodName)) := ⟨List.mem_append_right _ (List.mem_of_getElem? (i := 1045) rfl), rfl⟩
set_option maxRecDepth 100000 in
theorem w_1046 : mp_w (Jvm.Cond.code ({ cls := "ScriptDeskModel", name := "isNumber", desc := "(I)Z" } : Jvm.MethodName) prog_11_method_15_code (2 : Nat) (Option.some Jvm.ClassFile.FieldType.boolean)) := ⟨List.mem_append_right _ (List.mem_of_getElem? (i := 1046) rfl), rfl⟩
set_option maxRecDepth 100000 in
theorem w_1047 : mp_w (Jvm.Cond.methodLink "ScriptDeskModel" (152 : Nat) ({ cls := "ScriptDeskModel", name := "numberAt", desc := "(I)J" } : Jvm.MethodName)) := ⟨List.mem_append_right _ (List.mem_of_getElem? (i := 1047) rfl), rfl⟩
set_option maxRecDepth 100000 in
theorem w_1049 : mp_w (Jvm.Cond.instanceMethod ({ cls := "ScriptDeskModel", name := "numberAt", desc := "(I)J" } : Jvm.MethodName)) := ⟨List.mem_append_right _ (List.mem_of_getElem? (i := 1049) rfl), rfl⟩
set_option maxRecDepth 100000 in
theorem w_1050 : mp_w (Jvm.Cond.code ({ cls := "ScriptDeskModel", name := "numberAt", desc := "(I)J" } : Jvm.MethodName) prog_11_method_16_code (6 : Nat) (Option.some Jvm.ClassFile.FieldType.long)) := ⟨List.mem_append_right _ (List.mem_of_getElem? (i := 1050) rfl), rfl⟩
set_option maxRecDepth 100000 in
theorem w_1051 : mp_w (Jvm.Cond.constantLong "ScriptDeskModel" (107 : Nat) (255 : Int64)) := ⟨List.mem_append_right _ (List.mem_of_getElem? (i := 1051) rfl), rfl⟩
set_option maxRecDepth 100000 in
theorem w_1052 : mp_w (Jvm.Cond.constantLong "ScriptDeskModel" (109 : Nat) (-1 : Int64)) := ⟨List.mem_append_right _ (List.mem_of_getElem? (i := 1052) rfl), rfl⟩
set_option maxRecDepth 100000 in
theorem w_1053 : mp_w (Jvm.Cond.methodLink "ScriptDeskModel" (134 : Nat) ({ cls := "ScriptDeskModel", name := "other", desc := "(I)I" } : Jvm.MethodName)) := ⟨List.mem_append_right _ (List.mem_of_getElem? (i := 1053) rfl), rfl⟩
set_option maxRecDepth 100000 in
theorem w_1054 : mp_w (Jvm.Cond.static ({ cls := "ScriptDeskModel", name := "other", desc := "(I)I" } : Jvm.MethodName)) := ⟨List.mem_append_right _ (List.mem_of_getElem? (i := 1054) rfl), rfl⟩
set_option maxRecDepth 100000 in
theorem w_1055 : mp_w (Jvm.Cond.code ({ cls := "ScriptDeskModel", name := "other", desc := "(I)I" } : Jvm.MethodName) prog_11_method_9_code (1 : Nat) (Option.some Jvm.ClassFile.FieldType.int)) := ⟨List.mem_append_right _ (List.mem_of_getElem? (i := 1055) rfl), rfl⟩
set_option maxRecDepth 100000 in
theorem w_1056 : mp_w (Jvm.Cond.methodLink "ScriptDeskModel" (138 : Nat) ({ cls := "ScriptDeskModel", name := "move", desc := "(II)V" } : Jvm.MethodName)) := ⟨List.mem_append_right _ (List.mem_of_getElem? (i := 1056) rfl), rfl⟩
set_option maxRecDepth 100000 in
theorem w_1058 : mp_w (Jvm.Cond.instanceMethod ({ cls := "ScriptDeskModel", name := "move", desc := "(II)V" } : Jvm.MethodName)) := ⟨List.mem_append_right _ (List.mem_of_getElem? (i := 1058) rfl), rfl⟩
set_option maxRecDepth 100000 in
theorem w_1059 : mp_w (Jvm.Cond.code ({ cls := "ScriptDeskModel", name := "move", desc := "(II)V" } : Jvm.MethodName) prog_11_method_10_code (3 : Nat) (Option.none : Option Jvm.ClassFile.FieldType)) := ⟨List.mem_append_right _ (List.mem_of_getElem? (i := 1059) rfl), rfl⟩
set_option maxRecDepth 100000 in
theorem w_1060 : mp_w (Jvm.Cond.methodLink "ScriptDeskModel" (142 : Nat) ({ cls := "ScriptDeskModel", name := "again", desc := "(I)Z" } : Jvm.MethodName)) := ⟨List.mem_append_right _ (List.mem_of_getElem? (i := 1060) rfl), rfl⟩
set_option maxRecDepth 100000 in
theorem w_1062 : mp_w (Jvm.Cond.instanceMethod ({ cls := "ScriptDeskModel", name := "again", desc := "(I)Z" } : Jvm.MethodName)) := ⟨List.mem_append_right _ (List.mem_of_getElem? (i := 1062) rfl), rfl⟩
set_option maxRecDepth 100000 in
theorem w_1063 : mp_w (Jvm.Cond.code ({ cls := "ScriptDeskModel", name := "again", desc := "(I)Z" } : Jvm.MethodName) prog_11_method_21_code (2 : Nat) (Option.some Jvm.ClassFile.FieldType.boolean)) := ⟨List.mem_append_right _ (List.mem_of_getElem? (i := 1063) rfl), rfl⟩
set_option maxRecDepth 100000 in
theorem w_1064 : mp_w (Jvm.Cond.methodLink "ScriptDeskModel" (145 : Nat) ({ cls := "ScriptDeskModel", name := "takes", desc := "(IZ)Z" } : Jvm.MethodName)) := ⟨List.mem_append_right _ (List.mem_of_getElem? (i := 1064) rfl), rfl⟩
set_option maxRecDepth 100000 in
theorem w_1066 : mp_w (Jvm.Cond.instanceMethod ({ cls := "ScriptDeskModel", name := "takes", desc := "(IZ)Z" } : Jvm.MethodName)) := ⟨List.mem_append_right _ (List.mem_of_getElem? (i := 1066) rfl), rfl⟩
set_option maxRecDepth 100000 in
theorem w_1067 : mp_w (Jvm.Cond.code ({ cls := "ScriptDeskModel", name := "takes", desc := "(IZ)Z" } : Jvm.MethodName) prog_11_method_22_code (4 : Nat) (Option.some Jvm.ClassFile.FieldType.boolean)) := ⟨List.mem_append_right _ (List.mem_of_getElem? (i := 1067) rfl), rfl⟩
set_option maxRecDepth 100000 in
theorem w_1068 : mp_w (Jvm.Cond.methodLink "ScriptDeskModel" (156 : Nat) ({ cls := "ScriptDeskModel", name := "isSame", desc := "(II)Z" } : Jvm.MethodName)) := ⟨List.mem_append_right _ (List.mem_of_getElem? (i := 1068) rfl), rfl⟩
set_option maxRecDepth 100000 in
theorem w_1070 : mp_w (Jvm.Cond.instanceMethod ({ cls := "ScriptDeskModel", name := "isSame", desc := "(II)Z" } : Jvm.MethodName)) := ⟨List.mem_append_right _ (List.mem_of_getElem? (i := 1070) rfl), rfl⟩
set_option maxRecDepth 100000 in
theorem w_1071 : mp_w (Jvm.Cond.code ({ cls := "ScriptDeskModel", name := "isSame", desc := "(II)Z" } : Jvm.MethodName) prog_11_method_17_code (4 : Nat) (Option.some Jvm.ClassFile.FieldType.boolean)) := ⟨List.mem_append_right _ (List.mem_of_getElem? (i := 1071) rfl), rfl⟩
set_option maxRecDepth 100000 in
theorem w_1072 : mp_w (Jvm.Cond.methodLink "ScriptDeskModel" (160 : Nat) ({ cls := "ScriptDeskModel", name := "pushTruth", desc := "(Z)V" } : Jvm.MethodName)) := ⟨List.mem_append_right _ (List.mem_of_getElem? (i := 1072) rfl), rfl⟩
set_option maxRecDepth 100000 in
theorem w_1074 : mp_w (Jvm.Cond.instanceMethod ({ cls := "ScriptDeskModel", name := "pushTruth", desc := "(Z)V" } : Jvm.MethodName)) := ⟨List.mem_append_right _ (List.mem_of_getElem? (i := 1074) rfl), rfl⟩
set_option maxRecDepth 100000 in
theorem w_1075 : mp_w (Jvm.Cond.code ({ cls := "ScriptDeskModel", name := "pushTruth", desc := "(Z)V" } : Jvm.MethodName) prog_11_method_13_code (2 : Nat) (Option.none : Option Jvm.ClassFile.FieldType)) := ⟨List.mem_append_right _ (List.mem_of_getElem? (i := 1075) rfl), rfl⟩
set_option maxRecDepth 100000 in
theorem w_1076 : mp_w (Jvm.Cond.methodLink "ScriptDeskModel" (164 : Nat) ({ cls := "ScriptDeskModel", name := "hashed", desc := "(I)Z" } : Jvm.MethodName)) := ⟨List.mem_append_right _ (List.mem_of_getElem? (i := 1076) rfl), rfl⟩
set_option maxRecDepth 100000 in
theorem w_1078 : mp_w (Jvm.Cond.instanceMethod ({ cls := "ScriptDeskModel", name := "hashed", desc := "(I)Z" } : Jvm.MethodName)) := ⟨List.mem_append_right _ (List.mem_of_getElem? (i := 1078) rfl), rfl⟩
set_option maxRecDepth 100000 in
theorem w_1079 : mp_w (Jvm.Cond.code ({ cls := "ScriptDeskModel", name := "hashed", desc := "(I)Z" } : Jvm.MethodName) prog_11_method_24_code (4 : Nat) (Option.some Jvm.ClassFile.FieldType.boolean)) := ⟨List.mem_append_right _ (List.mem_of_getElem? (i := 1079) rfl), rfl⟩
set_option maxRecDepth 100000 in
theorem w_1080 : mp_w (Jvm.Cond.methodLink "ScriptDeskModel" (171 : Nat) ({ cls := "ScriptDeskModel", name := "ripemd", desc := "([BII)V" } : Jvm.MethodName)) := ⟨List.mem_append_right _ (List.mem_of_getElem? (i := 1080) rfl), rfl⟩
set_option maxRecDepth 100000 in
theorem w_1082 : mp_w (Jvm.Cond.instanceMethod ({ cls := "ScriptDeskModel", name := "ripemd", desc := "([BII)V" } : Jvm.MethodName)) := ⟨List.mem_append_right _ (List.mem_of_getElem? (i := 1082) rfl), rfl⟩
set_option maxRecDepth 100000 in
theorem w_1083 : mp_w (Jvm.Cond.code ({ cls := "ScriptDeskModel", name := "ripemd", desc := "([BII)V" } : Jvm.MethodName) prog_11_method_8_code (25 : Nat) (Option.none : Option Jvm.ClassFile.FieldType)) := ⟨List.mem_append_right _ (List.mem_of_getElem? (i := 1083) rfl), rfl⟩
set_option maxRecDepth 100000 in
theorem w_1084 : mp_w (Jvm.Cond.constantLong "ScriptDeskModel" (54 : Nat) (8 : Int64)) := ⟨List.mem_append_right _ (List.mem_of_getElem? (i := 1084) rfl), rfl⟩
set_option maxRecDepth 100000 in
theorem w_1085 : mp_w (Jvm.Cond.constant "ScriptDeskModel" (70 : Nat) (1732584193 : Int32)) := ⟨List.mem_append_right _ (List.mem_of_getElem? (i := 1085) rfl), rfl⟩
set_option maxRecDepth 100000 in
theorem w_1086 : mp_w (Jvm.Cond.constant "ScriptDeskModel" (71 : Nat) (-271733879 : Int32)) := ⟨List.mem_append_right _ (List.mem_of_getElem? (i := 1086) rfl), rfl⟩
set_option maxRecDepth 100000 in
theorem w_1087 : mp_w (Jvm.Cond.constant "ScriptDeskModel" (72 : Nat) (-1732584194 : Int32)) := ⟨List.mem_append_right _ (List.mem_of_getElem? (i := 1087) rfl), rfl⟩
set_option maxRecDepth 100000 in
theorem w_1088 : mp_w (Jvm.Cond.constant "ScriptDeskModel" (73 : Nat) (271733878 : Int32)) := ⟨List.mem_append_right _ (List.mem_of_getElem? (i := 1088) rfl), rfl⟩
set_option maxRecDepth 100000 in
theorem w_1089 : mp_w (Jvm.Cond.constant "ScriptDeskModel" (74 : Nat) (-1009589776 : Int32)) := ⟨List.mem_append_right _ (List.mem_of_getElem? (i := 1089) rfl), rfl⟩
set_option maxRecDepth 100000 in
theorem w_1090 : mp_w (Jvm.Cond.methodLink "ScriptDeskModel" (75 : Nat) ({ cls := "ScriptDeskModel", name := "mix", desc := "(IIII)I" } : Jvm.MethodName)) := ⟨List.mem_append_right _ (List.mem_of_getElem? (i := 1090) rfl), rfl⟩
set_option maxRecDepth 100000 in
theorem w_1091 : mp_w (Jvm.Cond.static ({ cls := "ScriptDeskModel", name := "mix", desc := "(IIII)I" } : Jvm.MethodName)) := ⟨List.mem_append_right _ (List.mem_of_getElem? (i := 1091) rfl), rfl⟩
set_option maxRecDepth 100000 in
theorem w_1092 : mp_w (Jvm.Cond.code ({ cls := "ScriptDeskModel", name := "mix", desc := "(IIII)I" } : Jvm.MethodName) prog_11_method_7_code (4 : Nat) (Option.some Jvm.ClassFile.FieldType.int)) := ⟨List.mem_append_right _ (List.mem_of_getElem? (i := 1092) rfl), rfl⟩
set_option maxRecDepth 100000 in
theorem w_1093 : mp_w (Jvm.Cond.fieldLink "ScriptDeskModel" (79 : Nat) "ScriptDeskModel" "RL" "[I") := ⟨List.mem_append_right _ (List.mem_of_getElem? (i := 1093) rfl), rfl⟩
set_option maxRecDepth 100000 in
theorem w_1095 : mp_w (Jvm.Cond.methodLink "ScriptDeskModel" (82 : Nat) ({ cls := "ScriptDeskModel", name := "small", desc := "([BI)I" } : Jvm.MethodName)) := ⟨List.mem_append_right _ (List.mem_of_getElem? (i := 1095) rfl), rfl⟩
set_option maxRecDepth 100000 in
theorem w_1096 : mp_w (Jvm.Cond.static ({ cls := "ScriptDeskModel", name := "small", desc := "([BI)I" } : Jvm.MethodName)) := ⟨List.mem_append_right _ (List.mem_of_getElem? (i := 1096) rfl), rfl⟩
set_option maxRecDepth 100000 in
theorem w_1097 : mp_w (Jvm.Cond.code ({ cls := "ScriptDeskModel", name := "small", desc := "([BI)I" } : Jvm.MethodName) prog_11_method_6_code (2 : Nat) (Option.some Jvm.ClassFile.FieldType.int)) := ⟨List.mem_append_right _ (List.mem_of_getElem? (i := 1097) rfl), rfl⟩
set_option maxRecDepth 100000 in
theorem w_1098 : mp_w (Jvm.Cond.fieldLink "ScriptDeskModel" (85 : Nat) "ScriptDeskModel" "KL" "[I") := ⟨List.mem_append_right _ (List.mem_of_getElem? (i := 1098) rfl), rfl⟩
set_option maxRecDepth 100000 in
theorem w_1100 : mp_w (Jvm.Cond.fieldLink "ScriptDeskModel" (88 : Nat) "ScriptDeskModel" "SL" "[I") := ⟨List.mem_append_right _ (List.mem_of_getElem? (i := 1100) rfl), rfl⟩
set_option maxRecDepth 100000 in
theorem w_1102 : mp_w (Jvm.Cond.fieldLink "ScriptDeskModel" (91 : Nat) "ScriptDeskModel" "RR" "[I") := ⟨List.mem_append_right _ (List.mem_of_getElem? (i := 1102) rfl), rfl⟩
set_option maxRecDepth 100000 in
theorem w_1104 : mp_w (Jvm.Cond.fieldLink "ScriptDeskModel" (94 : Nat) "ScriptDeskModel" "KR" "[I") := ⟨List.mem_append_right _ (List.mem_of_getElem? (i := 1104) rfl), rfl⟩
set_option maxRecDepth 100000 in
theorem w_1106 : mp_w (Jvm.Cond.fieldLink "ScriptDeskModel" (97 : Nat) "ScriptDeskModel" "SR" "[I") := ⟨List.mem_append_right _ (List.mem_of_getElem? (i := 1106) rfl), rfl⟩
set_option maxRecDepth 100000 in
theorem w_1108 : mp_w (Jvm.Cond.methodLink "ScriptDeskModel" (174 : Nat) ({ cls := "ScriptDeskModel", name := "sha", desc := "([BII)V" } : Jvm.MethodName)) := ⟨List.mem_append_right _ (List.mem_of_getElem? (i := 1108) rfl), rfl⟩
set_option maxRecDepth 100000 in
theorem w_1110 : mp_w (Jvm.Cond.instanceMethod ({ cls := "ScriptDeskModel", name := "sha", desc := "([BII)V" } : Jvm.MethodName)) := ⟨List.mem_append_right _ (List.mem_of_getElem? (i := 1110) rfl), rfl⟩
set_option maxRecDepth 100000 in
theorem w_1111 : mp_w (Jvm.Cond.code ({ cls := "ScriptDeskModel", name := "sha", desc := "([BII)V" } : Jvm.MethodName) prog_11_method_4_code (18 : Nat) (Option.none : Option Jvm.ClassFile.FieldType)) := ⟨List.mem_append_right _ (List.mem_of_getElem? (i := 1111) rfl), rfl⟩
set_option maxRecDepth 100000 in
theorem w_1112 : mp_w (Jvm.Cond.fieldLink "ScriptDeskModel" (56 : Nat) "ScriptDeskModel" "START" "[I") := ⟨List.mem_append_right _ (List.mem_of_getElem? (i := 1112) rfl), rfl⟩
set_option maxRecDepth 100000 in
theorem w_1114 : mp_w (Jvm.Cond.methodLink "ScriptDeskModel" (59 : Nat) ({ cls := "ScriptDeskModel", name := "big", desc := "([BI)I" } : Jvm.MethodName)) := ⟨List.mem_append_right _ (List.mem_of_getElem? (i := 1114) rfl), rfl⟩
set_option maxRecDepth 100000 in
theorem w_1115 : mp_w (Jvm.Cond.static ({ cls := "ScriptDeskModel", name := "big", desc := "([BI)I" } : Jvm.MethodName)) := ⟨List.mem_append_right _ (List.mem_of_getElem? (i := 1115) rfl), rfl⟩
set_option maxRecDepth 100000 in
theorem w_1116 : mp_w (Jvm.Cond.code ({ cls := "ScriptDeskModel", name := "big", desc := "([BI)I" } : Jvm.MethodName) prog_11_method_5_code (2 : Nat) (Option.some Jvm.ClassFile.FieldType.int)) := ⟨List.mem_append_right _ (List.mem_of_getElem? (i := 1116) rfl), rfl⟩
set_option maxRecDepth 100000 in
theorem w_1117 : mp_w (Jvm.Cond.methodLink "ScriptDeskModel" (63 : Nat) ({ cls := "ScriptDeskModel", name := "turn", desc := "(II)I" } : Jvm.MethodName)) := ⟨List.mem_append_right _ (List.mem_of_getElem? (i := 1117) rfl), rfl⟩
set_option maxRecDepth 100000 in
theorem w_1118 : mp_w (Jvm.Cond.static ({ cls := "ScriptDeskModel", name := "turn", desc := "(II)I" } : Jvm.MethodName)) := ⟨List.mem_append_right _ (List.mem_of_getElem? (i := 1118) rfl), rfl⟩
set_option maxRecDepth 100000 in
theorem w_1119 : mp_w (Jvm.Cond.code ({ cls := "ScriptDeskModel", name := "turn", desc := "(II)I" } : Jvm.MethodName) prog_11_method_3_code (2 : Nat) (Option.some Jvm.ClassFile.FieldType.int)) := ⟨List.mem_append_right _ (List.mem_of_getElem? (i := 1119) rfl), rfl⟩
set_option maxRecDepth 100000 in
theorem w_1120 : mp_w (Jvm.Cond.fieldLink "ScriptDeskModel" (67 : Nat) "ScriptDeskModel" "K" "[I") := ⟨List.mem_append_right _ (List.mem_of_getElem? (i := 1120) rfl), rfl⟩
set_option maxRecDepth 100000 in
theorem w_1122 : mp_w (Jvm.Cond.methodLink "ScriptDeskModel" (167 : Nat) ({ cls := "ScriptDeskModel", name := "many", desc := "(Z)Z" } : Jvm.MethodName)) := ⟨List.mem_append_right _ (List.mem_of_getElem? (i := 1122) rfl), rfl⟩
set_option maxRecDepth 100000 in
theorem w_1124 : mp_w (Jvm.Cond.instanceMethod ({ cls := "ScriptDeskModel", name := "many", desc := "(Z)Z" } : Jvm.MethodName)) := ⟨List.mem_append_right _ (List.mem_of_getElem? (i := 1124) rfl), rfl⟩
set_option maxRecDepth 100000 in
theorem w_1125 : mp_w (Jvm.Cond.code ({ cls := "ScriptDeskModel", name := "many", desc := "(Z)Z" } : Jvm.MethodName) prog_11_method_25_code (8 : Nat) (Option.some Jvm.ClassFile.FieldType.boolean)) := ⟨List.mem_append_right _ (List.mem_of_getElem? (i := 1125) rfl), rfl⟩
set_option maxRecDepth 100000 in
theorem w_1126 : mp_w (Jvm.Cond.constantLong "ScriptDeskModel" (177 : Nat) (20 : Int64)) := ⟨List.mem_append_right _ (List.mem_of_getElem? (i := 1126) rfl), rfl⟩
set_option maxRecDepth 100000 in
theorem w_1127 : mp_w (Jvm.Cond.methodLink "ScriptDeskLaw" (68 : Nat) ({ cls := "ScriptDeskModel", name := "depth", desc := "()I" } : Jvm.MethodName)) := ⟨List.mem_append_right _ (List.mem_of_getElem? (i := 1127) rfl), rfl⟩
set_option maxRecDepth 100000 in
theorem w_1128 : mp_w (Jvm.Cond.instanceMethod ({ cls := "ScriptDeskModel", name := "depth", desc := "()I" } : Jvm.MethodName)) := ⟨List.mem_append_right _ (List.mem_of_getElem? (i := 1128) rfl), rfl⟩
set_option maxRecDepth 100000 in
theorem w_1129 : mp_w (Jvm.Cond.selects "ScriptDeskModel" ({ cls := "ScriptDeskModel", name := "depth", desc := "()I" } : Jvm.MethodName) ({ cls := "ScriptDeskModel", name := "depth", desc := "()I" } : Jvm.MethodName)) := ⟨List.mem_append_right _ (List.mem_of_getElem? (i := 1129) rfl), rfl⟩
set_option maxRecDepth 100000 in
theorem w_1130 : mp_w (Jvm.Cond.code ({ cls := "ScriptDeskModel", name := "depth", desc := "()I" } : Jvm.MethodName) prog_11_method_31_code (1 : Nat) (Option.some Jvm.ClassFile.FieldType.int)) := ⟨List.mem_append_right _ (List.mem_of_getElem? (i := 1130) rfl), rfl⟩
set_option maxRecDepth 100000 in
theorem w_1131 : mp_w (Jvm.Cond.methodLink "ScriptDeskLaw" (71 : Nat) ({ cls := "ScriptDeskModel", name := "size", desc := "(I)I" } : Jvm.MethodName)) := ⟨List.mem_append_right _ (List.mem_of_getElem? (i := 1131) rfl), rfl⟩
set_option maxRecDepth 100000 in
theorem w_1132 : mp_w (Jvm.Cond.instanceMethod ({ cls := "ScriptDeskModel", name := "size", desc := "(I)I" } : Jvm.MethodName)) := ⟨List.mem_append_right _ (List.mem_of_getElem? (i := 1132) rfl), rfl⟩
set_option maxRecDepth 100000 in
theorem w_1133 : mp_w (Jvm.Cond.selects "ScriptDeskModel" ({ cls := "ScriptDeskModel", name := "size", desc := "(I)I" } : Jvm.MethodName) ({ cls := "ScriptDeskModel", name := "size", desc := "(I)I" } : Jvm.MethodName)) := ⟨List.mem_append_right _ (List.mem_of_getElem? (i := 1133) rfl), rfl⟩
set_option maxRecDepth 100000 in
theorem w_1134 : mp_w (Jvm.Cond.code ({ cls := "ScriptDeskModel", name := "size", desc := "(I)I" } : Jvm.MethodName) prog_11_method_33_code (2 : Nat) (Option.some Jvm.ClassFile.FieldType.int)) := ⟨List.mem_append_right _ (List.mem_of_getElem? (i := 1134) rfl), rfl⟩
set_option maxRecDepth 100000 in
theorem w_1135 : mp_w (Jvm.Cond.methodLink "ScriptDeskModel" (193 : Nat) ({ cls := "ScriptDeskModel", name := "isThing", desc := "(I)Z" } : Jvm.MethodName)) := ⟨List.mem_append_right _ (List.mem_of_getElem? (i := 1135) rfl), rfl⟩
set_option maxRecDepth 100000 in
theorem w_1137 : mp_w (Jvm.Cond.instanceMethod ({ cls := "ScriptDeskModel", name := "isThing", desc := "(I)Z" } : Jvm.MethodName)) := ⟨List.mem_append_right _ (List.mem_of_getElem? (i := 1137) rfl), rfl⟩
set_option maxRecDepth 100000 in
theorem w_1138 : mp_w (Jvm.Cond.code ({ cls := "ScriptDeskModel", name := "isThing", desc := "(I)Z" } : Jvm.MethodName) prog_11_method_32_code (2 : Nat) (Option.some Jvm.ClassFile.FieldType.boolean)) := ⟨List.mem_append_right _ (List.mem_of_getElem? (i := 1138) rfl), rfl⟩
set_option maxRecDepth 100000 in
theorem w_1139 : mp_w (Jvm.Cond.methodLink "ScriptDeskLaw" (75 : Nat) ({ cls := "ScriptDeskModel", name := "at", desc := "(II)I" } : Jvm.MethodName)) := ⟨List.mem_append_right _ (List.mem_of_getElem? (i := 1139) rfl), rfl⟩
set_option maxRecDepth 100000 in
theorem w_1140 : mp_w (Jvm.Cond.instanceMethod ({ cls := "ScriptDeskModel", name := "at", desc := "(II)I" } : Jvm.MethodName)) := ⟨List.mem_append_right _ (List.mem_of_getElem? (i := 1140) rfl), rfl⟩
set_option maxRecDepth 100000 in
theorem w_1141 : mp_w (Jvm.Cond.selects "ScriptDeskModel" ({ cls := "ScriptDeskModel", name := "at", desc := "(II)I" } : Jvm.MethodName) ({ cls := "ScriptDeskModel", name := "at", desc := "(II)I" } : Jvm.MethodName)) := ⟨List.mem_append_right _ (List.mem_of_getElem? (i := 1141) rfl), rfl⟩
set_option maxRecDepth 100000 in
theorem w_1142 : mp_w (Jvm.Cond.code ({ cls := "ScriptDeskModel", name := "at", desc := "(II)I" } : Jvm.MethodName) prog_11_method_34_code (4 : Nat) (Option.some Jvm.ClassFile.FieldType.int)) := ⟨List.mem_append_right _ (List.mem_of_getElem? (i := 1142) rfl), rfl⟩
set_option maxRecDepth 100000 in
theorem w_1143 : mp_w (Jvm.Cond.methodLink "ScriptDeskLaw" (78 : Nat) ({ cls := "ScriptDeskModel", name := "number", desc := "(I)I" } : Jvm.MethodName)) := ⟨List.mem_append_right _ (List.mem_of_getElem? (i := 1143) rfl), rfl⟩
set_option maxRecDepth 100000 in
theorem w_1144 : mp_w (Jvm.Cond.instanceMethod ({ cls := "ScriptDeskModel", name := "number", desc := "(I)I" } : Jvm.MethodName)) := ⟨List.mem_append_right _ (List.mem_of_getElem? (i := 1144) rfl), rfl⟩
set_option maxRecDepth 100000 in
theorem w_1145 : mp_w (Jvm.Cond.selects "ScriptDeskModel" ({ cls := "ScriptDeskModel", name := "number", desc := "(I)I" } : Jvm.MethodName) ({ cls := "ScriptDeskModel", name := "number", desc := "(I)I" } : Jvm.MethodName)) := ⟨List.mem_append_right _ (List.mem_of_getElem? (i := 1145) rfl), rfl⟩
set_option maxRecDepth 100000 in
theorem w_1146 : mp_w (Jvm.Cond.code ({ cls := "ScriptDeskModel", name := "number", desc := "(I)I" } : Jvm.MethodName) prog_11_method_35_code (3 : Nat) (Option.some Jvm.ClassFile.FieldType.int)) := ⟨List.mem_append_right _ (List.mem_of_getElem? (i := 1146) rfl), rfl⟩
set_option maxRecDepth 100000 in
theorem w_1147 : mp_w (Jvm.Cond.methodLink "ScriptDeskLaw" (81 : Nat) ({ cls := "ScriptDeskModel", name := "sigs", desc := "(I)I" } : Jvm.MethodName)) := ⟨List.mem_append_right _ (List.mem_of_getElem? (i := 1147) rfl), rfl⟩
set_option maxRecDepth 100000 in
theorem w_1148 : mp_w (Jvm.Cond.instanceMethod ({ cls := "ScriptDeskModel", name := "sigs", desc := "(I)I" } : Jvm.MethodName)) := ⟨List.mem_append_right _ (List.mem_of_getElem? (i := 1148) rfl), rfl⟩
set_option maxRecDepth 100000 in
theorem w_1149 : mp_w (Jvm.Cond.selects "ScriptDeskModel" ({ cls := "ScriptDeskModel", name := "sigs", desc := "(I)I" } : Jvm.MethodName) ({ cls := "ScriptDeskModel", name := "sigs", desc := "(I)I" } : Jvm.MethodName)) := ⟨List.mem_append_right _ (List.mem_of_getElem? (i := 1149) rfl), rfl⟩
set_option maxRecDepth 100000 in
theorem w_1150 : mp_w (Jvm.Cond.code ({ cls := "ScriptDeskModel", name := "sigs", desc := "(I)I" } : Jvm.MethodName) prog_11_method_36_code (6 : Nat) (Option.some Jvm.ClassFile.FieldType.int)) := ⟨List.mem_append_right _ (List.mem_of_getElem? (i := 1150) rfl), rfl⟩
set_option maxRecDepth 100000 in
theorem w_1151 : mp_w (Jvm.Cond.methodLink "ScriptDeskLaw" (84 : Nat) ({ cls := "ScriptDeskModel", name := "hash", desc := "(II)I" } : Jvm.MethodName)) := ⟨List.mem_append_right _ (List.mem_of_getElem? (i := 1151) rfl), rfl⟩
set_option maxRecDepth 100000 in
theorem w_1152 : mp_w (Jvm.Cond.instanceMethod ({ cls := "ScriptDeskModel", name := "hash", desc := "(II)I" } : Jvm.MethodName)) := ⟨List.mem_append_right _ (List.mem_of_getElem? (i := 1152) rfl), rfl⟩
set_option maxRecDepth 100000 in
theorem w_1153 : mp_w (Jvm.Cond.selects "ScriptDeskModel" ({ cls := "ScriptDeskModel", name := "hash", desc := "(II)I" } : Jvm.MethodName) ({ cls := "ScriptDeskModel", name := "hash", desc := "(II)I" } : Jvm.MethodName)) := ⟨List.mem_append_right _ (List.mem_of_getElem? (i := 1153) rfl), rfl⟩
set_option maxRecDepth 100000 in
theorem w_1154 : mp_w (Jvm.Cond.code ({ cls := "ScriptDeskModel", name := "hash", desc := "(II)I" } : Jvm.MethodName) prog_11_method_37_code (3 : Nat) (Option.some Jvm.ClassFile.FieldType.int)) := ⟨List.mem_append_right _ (List.mem_of_getElem? (i := 1154) rfl), rfl⟩
set_option maxRecDepth 100000 in
theorem w_1155 : mp_w (Jvm.Cond.arrayClass Jvm.ClassFile.FieldType.long) := ⟨List.mem_append_right _ (List.mem_of_getElem? (i := 1155) rfl), rfl⟩
set_option maxRecDepth 100000 in
theorem w_1156 : mp_w (Jvm.Cond.sameMethod "java/lang/Throwable" "java/lang/Throwable" "fillInStackTrace" "(I)Ljava/lang/Throwable;") := ⟨List.mem_append_right _ (List.mem_of_getElem? (i := 1156) rfl), rfl⟩
set_option maxRecDepth 100000 in
theorem w_1157 : mp_w (Jvm.Cond.sameMethod "java/lang/AbstractStringBuilder" "java/lang/AbstractStringBuilder" "append" "(I)Ljava/lang/AbstractStringBuilder;") := ⟨List.mem_append_right _ (List.mem_of_getElem? (i := 1157) rfl), rfl⟩
set_option maxRecDepth 100000 in
theorem w_1158 : mp_w (Jvm.Cond.sameMethod "java/lang/AbstractStringBuilder" "java/lang/AbstractStringBuilder" "ensureCapacityInternal" "(I)V") := ⟨List.mem_append_right _ (List.mem_of_getElem? (i := 1158) rfl), rfl⟩
set_option maxRecDepth 100000 in
theorem w_1159 : mp_w (Jvm.Cond.sameMethod "java/lang/AbstractStringBuilder" "java/lang/AbstractStringBuilder" "newCapacity" "(I)I") := ⟨List.mem_append_right _ (List.mem_of_getElem? (i := 1159) rfl), rfl⟩
set_option maxRecDepth 100000 in
theorem w_1160 : mp_w (Jvm.Cond.sameMethod "java/lang/AbstractStringBuilder" "java/lang/AbstractStringBuilder" "append" "(Ljava/lang/String;)Ljava/lang/AbstractStringBuilder;") := ⟨List.mem_append_right _ (List.mem_of_getElem? (i := 1160) rfl), rfl⟩
set_option maxRecDepth 100000 in
theorem w_1161 : mp_w (Jvm.Cond.sameMethod "java/lang/AbstractStringBuilder" "java/lang/AbstractStringBuilder" "appendNull" "()Ljava/lang/AbstractStringBuilder;") := ⟨List.mem_append_right _ (List.mem_of_getElem? (i := 1161) rfl), rfl⟩
set_option maxRecDepth 100000 in
theorem w_1162 : mp_w (Jvm.Cond.sameMethod "java/lang/AbstractStringBuilder" "java/lang/AbstractStringBuilder" "putStringAt" "(ILjava/lang/String;)V") := ⟨List.mem_append_right _ (List.mem_of_getElem? (i := 1162) rfl), rfl⟩
set_option maxRecDepth 100000 in
theorem w_1163 : mp_w (Jvm.Cond.sameMethod "java/lang/AbstractStringBuilder" "java/lang/AbstractStringBuilder" "inflateIfNeededFor" "(Ljava/lang/String;)V") := ⟨List.mem_append_right _ (List.mem_of_getElem? (i := 1163) rfl), rfl⟩
set_option maxRecDepth 100000 in
theorem w_1164 : mp_w (Jvm.Cond.sameMethod "java/lang/AbstractStringBuilder" "java/lang/AbstractStringBuilder" "inflate" "()V") := ⟨List.mem_append_right _ (List.mem_of_getElem? (i := 1164) rfl), rfl⟩
set_option maxRecDepth 100000 in
theorem w_1165 : mp_w (Jvm.Cond.sameMethod "ScriptDesk$Sum" "ScriptDesk$Sum" "load" "([BII)V") := ⟨List.mem_append_right _ (List.mem_of_getElem? (i := 1165) rfl), rfl⟩
set_option maxRecDepth 100000 in
theorem w_1166 : mp_w (Jvm.Cond.sameMethod "ScriptDesk$Sum" "ScriptDesk$Sum" "shift" "(I)I") := ⟨List.mem_append_right _ (List.mem_of_getElem? (i := 1166) rfl), rfl⟩
set_option maxRecDepth 100000 in
theorem w_1167 : mp_w (Jvm.Cond.sameMethod "ScriptDesk$Sum" "ScriptDesk$Sum" "result" "()LScriptDesk$Thing;") := ⟨List.mem_append_right _ (List.mem_of_getElem? (i := 1167) rfl), rfl⟩
