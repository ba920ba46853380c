set_option maxRecDepth 100000 in
theorem w_584 : mp_w (Jvm.Cond.code ({ cls := "jdk/internal/util/Preconditions", name := "checkFromIndexSize", desc := "(IIILjava/util/function/BiFunction;)I" } : Jvm.MethodName) prog_31_method_13_code (4 : Nat) (Option.some Jvm.ClassFile.FieldType.int)) := ⟨List.mem_append_right _ (List.mem_of_getElem? (i := 584) rfl), rfl⟩
set_option maxRecDepth 100000 in
theorem w_585 : mp_w (Jvm.Cond.methodLink "java/lang/AbstractStringBuilder" (399 : Nat) ({ cls := "java/lang/String", name := "getBytes", desc := "([BIB)V" } : Jvm.MethodName)) := ⟨List.mem_append_right _ (List.mem_of_getElem? (i := 585) rfl), rfl⟩
set_option maxRecDepth 100000 in
theorem w_586 : mp_w (Jvm.Cond.instanceMethod ({ cls := "java/lang/String", name := "getBytes", desc := "([BIB)V" } : Jvm.MethodName)) := ⟨List.mem_append_right _ (List.mem_of_getElem? (i := 586) rfl), rfl⟩
set_option maxRecDepth 100000 in
theorem w_587 : mp_w (Jvm.Cond.selects "java/lang/String" ({ cls := "java/lang/String", name := "getBytes", desc := "([BIB)V" } : Jvm.MethodName) ({ cls := "java/lang/String", name := "getBytes", desc := "([BIB)V" } : Jvm.MethodName)) := ⟨List.mem_append_right _ (List.mem_of_getElem? (i := 587) rfl), rfl⟩
set_option maxRecDepth 100000 in
theorem w_588 : mp_w (Jvm.Cond.code ({ cls := "java/lang/String", name := "getBytes", desc := "([BIB)V" } : Jvm.MethodName) prog_23_method_147_code (4 : Nat) (Option.none : Option Jvm.ClassFile.FieldType)) := ⟨List.mem_append_right _ (List.mem_of_getElem? (i := 588) rfl), rfl⟩
set_option maxRecDepth 100000 in
theorem w_589 : mp_w (Jvm.Cond.methodLink "java/lang/String" (212 : Nat) ({ cls := "java/lang/System", name := "arraycopy", desc := "(Ljava/lang/Object;ILjava/lang/Object;II)V" } : Jvm.MethodName)) := ⟨List.mem_append_right _ (List.mem_of_getElem? (i := 589) rfl), rfl⟩
set_option maxRecDepth 100000 in
theorem w_590 : mp_w (Jvm.Cond.methodLink "java/lang/String" (106 : Nat) ({ cls := "java/lang/StringLatin1", name := "inflate", desc := "([BI[BII)V" } : Jvm.MethodName)) := ⟨List.mem_append_right _ (List.mem_of_getElem? (i := 590) rfl), rfl⟩
set_option maxRecDepth 100000 in
theorem w_591 : mp_w (Jvm.Cond.methodLink "java/util/Arrays" (61 : Nat) ({ cls := "java/lang/StringBuilder", name := "toString", desc := "()Ljava/lang/String;" } : Jvm.MethodName)) := ⟨List.mem_append_right _ (List.mem_of_getElem? (i := 591) rfl), rfl⟩
set_option maxRecDepth 100000 in
theorem w_592 : mp_w (Jvm.Cond.instanceMethod ({ cls := "java/lang/StringBuilder", name := "toString", desc := "()Ljava/lang/String;" } : Jvm.MethodName)) := ⟨List.mem_append_right _ (List.mem_of_getElem? (i := 592) rfl), rfl⟩
set_option maxRecDepth 100000 in
theorem w_593 : mp_w (Jvm.Cond.selects "java/lang/StringBuilder" ({ cls := "java/lang/StringBuilder", name := "toString", desc := "()Ljava/lang/String;" } : Jvm.MethodName) ({ cls := "java/lang/StringBuilder", name := "toString", desc := "()Ljava/lang/String;" } : Jvm.MethodName)) := ⟨List.mem_append_right _ (List.mem_of_getElem? (i := 593) rfl), rfl⟩
set_option maxRecDepth 100000 in
theorem w_594 : mp_w (Jvm.Cond.code ({ cls := "java/lang/StringBuilder", name := "toString", desc := "()Ljava/lang/String;" } : Jvm.MethodName) prog_24_method_42_code (1 : Nat) (Option.some (Jvm.ClassFile.FieldType.object "java/lang/String"))) := ⟨List.mem_append_right _ (List.mem_of_getElem? (i := 594) rfl), rfl⟩
set_option maxRecDepth 100000 in
theorem w_595 : mp_w (Jvm.Cond.classLink "java/lang/StringBuilder" (18 : Nat) "java/lang/String") := ⟨List.mem_append_right _ (List.mem_of_getElem? (i := 595) rfl), rfl⟩
set_option maxRecDepth 100000 in
theorem w_596 : mp_w (Jvm.Cond.instantiable "java/lang/String" (4 : Nat)) := ⟨List.mem_append_right _ (List.mem_of_getElem? (i := 596) rfl), rfl⟩
set_option maxRecDepth 100000 in
theorem w_597 : mp_w (Jvm.Cond.methodLink "java/lang/StringBuilder" (137 : Nat) ({ cls := "java/lang/String", name := "<init>", desc := "(Ljava/lang/StringBuilder;)V" } : Jvm.MethodName)) := ⟨List.mem_append_right _ (List.mem_of_getElem? (i := 597) rfl), rfl⟩
set_option maxRecDepth 100000 in
theorem w_598 : mp_w (Jvm.Cond.instanceMethod ({ cls := "java/lang/String", name := "<init>", desc := "(Ljava/lang/StringBuilder;)V" } : Jvm.MethodName)) := ⟨List.mem_append_right _ (List.mem_of_getElem? (i := 598) rfl), rfl⟩
set_option maxRecDepth 100000 in
theorem w_599 : mp_w (Jvm.Cond.code ({ cls := "java/lang/String", name := "<init>", desc := "(Ljava/lang/StringBuilder;)V" } : Jvm.MethodName) prog_23_method_53_code (2 : Nat) (Option.none : Option Jvm.ClassFile.FieldType)) := ⟨List.mem_append_right _ (List.mem_of_getElem? (i := 599) rfl), rfl⟩
set_option maxRecDepth 100000 in
theorem w_600 : mp_w (Jvm.Cond.methodLink "java/lang/String" (489 : Nat) ({ cls := "java/lang/String", name := "<init>", desc := "(Ljava/lang/AbstractStringBuilder;Ljava/lang/Void;)V" } : Jvm.MethodName)) := ⟨List.mem_append_right _ (List.mem_of_getElem? (i := 600) rfl), rfl⟩
set_option maxRecDepth 100000 in
theorem w_601 : mp_w (Jvm.Cond.instanceMethod ({ cls := "java/lang/String", name := "<init>", desc := "(Ljava/lang/AbstractStringBuilder;Ljava/lang/Void;)V" } : Jvm.MethodName)) := ⟨List.mem_append_right _ (List.mem_of_getElem? (i := 601) rfl), rfl⟩
set_option maxRecDepth 100000 in
theorem w_602 : mp_w (Jvm.Cond.code ({ cls := "java/lang/String", name := "<init>", desc := "(Ljava/lang/AbstractStringBuilder;Ljava/lang/Void;)V" } : Jvm.MethodName) prog_23_method_150_code (5 : Nat) (Option.none : Option Jvm.ClassFile.FieldType)) := ⟨List.mem_append_right _ (List.mem_of_getElem? (i := 602) rfl), rfl⟩
set_option maxRecDepth 100000 in
theorem w_603 : mp_w (Jvm.Cond.methodLink "java/lang/String" (1 : Nat) ({ cls := "java/lang/Object", name := "<init>", desc := "()V" } : Jvm.MethodName)) := ⟨List.mem_append_right _ (List.mem_of_getElem? (i := 603) rfl), rfl⟩
set_option maxRecDepth 100000 in
theorem w_604 : mp_w (Jvm.Cond.methodLink "java/lang/String" (552 : Nat) ({ cls := "java/lang/AbstractStringBuilder", name := "getValue", desc := "()[B" } : Jvm.MethodName)) := ⟨List.mem_append_right _ (List.mem_of_getElem? (i := 604) rfl), rfl⟩
set_option maxRecDepth 100000 in
theorem w_605 : mp_w (Jvm.Cond.instanceMethod ({ cls := "java/lang/AbstractStringBuilder", name := "getValue", desc := "()[B" } : Jvm.MethodName)) := ⟨List.mem_append_right _ (List.mem_of_getElem? (i := 605) rfl), rfl⟩
set_option maxRecDepth 100000 in
theorem w_606 : mp_w (Jvm.Cond.sameMethod "java/lang/AbstractStringBuilder" "java/lang/AbstractStringBuilder" "getValue" "()[B") := ⟨List.mem_append_right _ (List.mem_of_getElem? (i := 606) rfl), rfl⟩
set_option maxRecDepth 100000 in
theorem w_607 : mp_w (Jvm.Cond.selects "java/lang/StringBuilder" ({ cls := "java/lang/AbstractStringBuilder", name := "getValue", desc := "()[B" } : Jvm.MethodName) ({ cls := "java/lang/AbstractStringBuilder", name := "getValue", desc := "()[B" } : Jvm.MethodName)) := ⟨List.mem_append_right _ (List.mem_of_getElem? (i := 607) rfl), rfl⟩
set_option maxRecDepth 100000 in
theorem w_608 : mp_w (Jvm.Cond.code ({ cls := "java/lang/AbstractStringBuilder", name := "getValue", desc := "()[B" } : Jvm.MethodName) prog_12_method_64_code (1 : Nat) (Option.some (Jvm.ClassFile.FieldType.array Jvm.ClassFile.FieldType.byte))) := ⟨List.mem_append_right _ (List.mem_of_getElem? (i := 608) rfl), rfl⟩
set_option maxRecDepth 100000 in
theorem w_609 : mp_w (Jvm.Cond.methodLink "java/lang/String" (549 : Nat) ({ cls := "java/lang/AbstractStringBuilder", name := "length", desc := "()I" } : Jvm.MethodName)) := ⟨List.mem_append_right _ (List.mem_of_getElem? (i := 609) rfl), rfl⟩
set_option maxRecDepth 100000 in
theorem w_610 : mp_w (Jvm.Cond.instanceMethod ({ cls := "java/lang/AbstractStringBuilder", name := "length", desc := "()I" } : Jvm.MethodName)) := ⟨List.mem_append_right _ (List.mem_of_getElem? (i := 610) rfl), rfl⟩
set_option maxRecDepth 100000 in
theorem w_611 : mp_w (Jvm.Cond.sameMethod "java/lang/AbstractStringBuilder" "java/lang/AbstractStringBuilder" "length" "()I") := ⟨List.mem_append_right _ (List.mem_of_getElem? (i := 611) rfl), rfl⟩
set_option maxRecDepth 100000 in
theorem w_612 : mp_w (Jvm.Cond.selects "java/lang/StringBuilder" ({ cls := "java/lang/AbstractStringBuilder", name := "length", desc := "()I" } : Jvm.MethodName) ({ cls := "java/lang/StringBuilder", name := "length", desc := "()I" } : Jvm.MethodName)) := ⟨List.mem_append_right _ (List.mem_of_getElem? (i := 612) rfl), rfl⟩
set_option maxRecDepth 100000 in
theorem w_613 : mp_w (Jvm.Cond.instanceMethod ({ cls := "java/lang/StringBuilder", name := "length", desc := "()I" } : Jvm.MethodName)) := ⟨List.mem_append_right _ (List.mem_of_getElem? (i := 613) rfl), rfl⟩
set_option maxRecDepth 100000 in
theorem w_614 : mp_w (Jvm.Cond.code ({ cls := "java/lang/StringBuilder", name := "length", desc := "()I" } : Jvm.MethodName) prog_24_method_93_code (1 : Nat) (Option.some Jvm.ClassFile.FieldType.int)) := ⟨List.mem_append_right _ (List.mem_of_getElem? (i := 614) rfl), rfl⟩
set_option maxRecDepth 100000 in
theorem w_615 : mp_w (Jvm.Cond.methodLink "java/lang/StringBuilder" (343 : Nat) ({ cls := "java/lang/AbstractStringBuilder", name := "length", desc := "()I" } : Jvm.MethodName)) := ⟨List.mem_append_right _ (List.mem_of_getElem? (i := 615) rfl), rfl⟩
set_option maxRecDepth 100000 in
theorem w_616 : mp_w (Jvm.Cond.code ({ cls := "java/lang/AbstractStringBuilder", name := "length", desc := "()I" } : Jvm.MethodName) prog_12_method_6_code (1 : Nat) (Option.some Jvm.ClassFile.FieldType.int)) := ⟨List.mem_append_right _ (List.mem_of_getElem? (i := 616) rfl), rfl⟩
set_option maxRecDepth 100000 in
theorem w_617 : mp_w (Jvm.Cond.methodLink "java/lang/String" (1047 : Nat) ({ cls := "java/lang/AbstractStringBuilder", name := "isLatin1", desc := "()Z" } : Jvm.MethodName)) := ⟨List.mem_append_right _ (List.mem_of_getElem? (i := 617) rfl), rfl⟩
set_option maxRecDepth 100000 in
theorem w_618 : mp_w (Jvm.Cond.methodLink "java/lang/String" (54 : Nat) ({ cls := "java/util/Arrays", name := "copyOfRange", desc := "([BII)[B" } : Jvm.MethodName)) := ⟨List.mem_append_right _ (List.mem_of_getElem? (i := 618) rfl), rfl⟩
set_option maxRecDepth 100000 in
theorem w_619 : mp_w (Jvm.Cond.methodLink "java/lang/String" (1051 : Nat) ({ cls := "java/lang/StringUTF16", name := "compress", desc := "([BII)[B" } : Jvm.MethodName)) := ⟨List.mem_append_right _ (List.mem_of_getElem? (i := 619) rfl), rfl⟩
set_option maxRecDepth 100000 in
theorem w_620 : mp_w (Jvm.Cond.static ({ cls := "java/lang/StringUTF16", name := "compress", desc := "([BII)[B" } : Jvm.MethodName)) := ⟨List.mem_append_right _ (List.mem_of_getElem? (i := 620) rfl), rfl⟩
set_option maxRecDepth 100000 in
theorem w_621 : mp_w (Jvm.Cond.code ({ cls := "java/lang/StringUTF16", name := "compress", desc := "([BII)[B" } : Jvm.MethodName) prog_26_method_17_code (6 : Nat) (Option.some (Jvm.ClassFile.FieldType.array Jvm.ClassFile.FieldType.byte))) := ⟨List.mem_append_right _ (List.mem_of_getElem? (i := 621) rfl), rfl⟩
set_option maxRecDepth 100000 in
theorem w_622 : mp_w (Jvm.Cond.methodLink "java/lang/StringUTF16" (123 : Nat) ({ cls := "java/lang/StringUTF16", name := "compress", desc := "([BI[BII)I" } : Jvm.MethodName)) := ⟨List.mem_append_right _ (List.mem_of_getElem? (i := 622) rfl), rfl⟩
set_option maxRecDepth 100000 in
theorem w_623 : mp_w (Jvm.Cond.static ({ cls := "java/lang/StringUTF16", name := "compress", desc := "([BI[BII)I" } : Jvm.MethodName)) := ⟨List.mem_append_right _ (List.mem_of_getElem? (i := 623) rfl), rfl⟩
set_option maxRecDepth 100000 in
theorem w_624 : mp_w (Jvm.Cond.code ({ cls := "java/lang/StringUTF16", name := "compress", desc := "([BI[BII)I" } : Jvm.MethodName) prog_26_method_22_code (7 : Nat) (Option.some Jvm.ClassFile.FieldType.int)) := ⟨List.mem_append_right _ (List.mem_of_getElem? (i := 624) rfl), rfl⟩
set_option maxRecDepth 100000 in
theorem w_625 : mp_w (Jvm.Cond.methodLink "java/lang/StringUTF16" (71 : Nat) ({ cls := "java/lang/StringUTF16", name := "getChar", desc := "([BI)C" } : Jvm.MethodName)) := ⟨List.mem_append_right _ (List.mem_of_getElem? (i := 625) rfl), rfl⟩
set_option maxRecDepth 100000 in
theorem w_626 : mp_w (Jvm.Cond.static ({ cls := "java/lang/StringUTF16", name := "getChar", desc := "([BI)C" } : Jvm.MethodName)) := ⟨List.mem_append_right _ (List.mem_of_getElem? (i := 626) rfl), rfl⟩
set_option maxRecDepth 100000 in
theorem w_627 : mp_w (Jvm.Cond.code ({ cls := "java/lang/StringUTF16", name := "getChar", desc := "([BI)C" } : Jvm.MethodName) prog_26_method_5_code (2 : Nat) (Option.some Jvm.ClassFile.FieldType.char)) := ⟨List.mem_append_right _ (List.mem_of_getElem? (i := 627) rfl), rfl⟩
set_option maxRecDepth 100000 in
theorem w_628 : mp_w (Jvm.Cond.methodLink "java/lang/StringUTF16" (126 : Nat) ({ cls := "java/util/Arrays", name := "copyOfRange", desc := "([BII)[B" } : Jvm.MethodName)) := ⟨List.mem_append_right _ (List.mem_of_getElem? (i := 628) rfl), rfl⟩
set_option maxRecDepth 100000 in
theorem w_629 : mp_w (Jvm.Cond.methodLink "java/lang/String" (47 : Nat) ({ cls := "java/lang/StringUTF16", name := "coderFromArrayLen", desc := "([BI)B" } : Jvm.MethodName)) := ⟨List.mem_append_right _ (List.mem_of_getElem? (i := 629) rfl), rfl⟩
set_option maxRecDepth 100000 in
theorem w_630 : mp_w (Jvm.Cond.static ({ cls := "java/lang/StringUTF16", name := "coderFromArrayLen", desc := "([BI)B" } : Jvm.MethodName)) := ⟨List.mem_append_right _ (List.mem_of_getElem? (i := 630) rfl), rfl⟩
set_option maxRecDepth 100000 in
theorem w_631 : mp_w (Jvm.Cond.code ({ cls := "java/lang/StringUTF16", name := "coderFromArrayLen", desc := "([BI)B" } : Jvm.MethodName) prog_26_method_15_code (2 : Nat) (Option.some Jvm.ClassFile.FieldType.byte)) := ⟨List.mem_append_right _ (List.mem_of_getElem? (i := 631) rfl), rfl⟩
set_option maxRecDepth 100000 in
theorem w_632 : mp_w (Jvm.Cond.fieldLink "java/lang/String" (9 : Nat) "java/lang/String" "value" "[B") := ⟨List.mem_append_right _ (List.mem_of_getElem? (i := 632) rfl), rfl⟩
set_option maxRecDepth 100000 in
theorem w_633 : mp_w (Jvm.Cond.fieldLink "java/lang/String" (15 : Nat) "java/lang/String" "coder" "B") := ⟨List.mem_append_right _ (List.mem_of_getElem? (i := 633) rfl), rfl⟩
set_option maxRecDepth 100000 in
theorem w_634 : mp_w (Jvm.Cond.laysFinal "java/lang/String" "java/lang/String" "value" "[B") := ⟨List.mem_append_right _ (List.mem_of_getElem? (i := 634) rfl), rfl⟩
set_option maxRecDepth 100000 in
theorem w_636 : mp_w (Jvm.Cond.laysFinal "java/lang/String" "java/lang/String" "coder" "B") := ⟨List.mem_append_right _ (List.mem_of_getElem? (i := 636) rfl), rfl⟩
set_option maxRecDepth 100000 in
theorem w_638 : mp_w (Jvm.Cond.lays "java/lang/String" "java/lang/String" "hash" "I") := ⟨List.mem_append_right _ (List.mem_of_getElem? (i := 638) rfl), rfl⟩
set_option maxRecDepth 100000 in
theorem w_640 : mp_w (Jvm.Cond.lays "java/lang/String" "java/lang/String" "hashIsZero" "Z") := ⟨List.mem_append_right _ (List.mem_of_getElem? (i := 640) rfl), rfl⟩
set_option maxRecDepth 100000 in
theorem w_642 : mp_w (Jvm.Cond.superclass "java/lang/String" "java/lang/Object") := ⟨List.mem_append_right _ (List.mem_of_getElem? (i := 642) rfl), rfl⟩
set_option maxRecDepth 100000 in
theorem w_643 : mp_w (Jvm.Cond.methodLink "java/util/Arrays" (65 : Nat) ({ cls := "java/lang/IllegalArgumentException", name := "<init>", desc := "(Ljava/lang/String;)V" } : Jvm.MethodName)) := ⟨List.mem_append_right _ (List.mem_of_getElem? (i := 643) rfl), rfl⟩
set_option maxRecDepth 100000 in
theorem w_644 : mp_w (Jvm.Cond.instanceMethod ({ cls := "java/lang/IllegalArgumentException", name := "<init>", desc := "(Ljava/lang/String;)V" } : Jvm.MethodName)) := ⟨List.mem_append_right _ (List.mem_of_getElem? (i := 644) rfl), rfl⟩
set_option maxRecDepth 100000 in
theorem w_645 : mp_w (Jvm.Cond.code ({ cls := "java/lang/IllegalArgumentException", name := "<init>", desc := "(Ljava/lang/String;)V" } : Jvm.MethodName) prog_16_method_2_code (2 : Nat) (Option.none : Option Jvm.ClassFile.FieldType)) := ⟨List.mem_append_right _ (List.mem_of_getElem? (i := 645) rfl), rfl⟩
set_option maxRecDepth 100000 in
theorem w_646 : mp_w (Jvm.Cond.methodLink "java/lang/IllegalArgumentException" (7 : Nat) ({ cls := "java/lang/RuntimeException", name := "<init>", desc := "(Ljava/lang/String;)V" } : Jvm.MethodName)) := ⟨List.mem_append_right _ (List.mem_of_getElem? (i := 646) rfl), rfl⟩
set_option maxRecDepth 100000 in
theorem w_647 : mp_w (Jvm.Cond.instanceMethod ({ cls := "java/lang/RuntimeException", name := "<init>", desc := "(Ljava/lang/String;)V" } : Jvm.MethodName)) := ⟨List.mem_append_right _ (List.mem_of_getElem? (i := 647) rfl), rfl⟩
set_option maxRecDepth 100000 in
theorem w_648 : mp_w (Jvm.Cond.code ({ cls := "java/lang/RuntimeException", name := "<init>", desc := "(Ljava/lang/String;)V" } : Jvm.MethodName) prog_22_method_2_code (2 : Nat) (Option.none : Option Jvm.ClassFile.FieldType)) := ⟨List.mem_append_right _ (List.mem_of_getElem? (i := 648) rfl), rfl⟩
set_option maxRecDepth 100000 in
theorem w_649 : mp_w (Jvm.Cond.methodLink "java/lang/RuntimeException" (7 : Nat) ({ cls := "java/lang/Exception", name := "<init>", desc := "(Ljava/lang/String;)V" } : Jvm.MethodName)) := ⟨List.mem_append_right _ (List.mem_of_getElem? (i := 649) rfl), rfl⟩
set_option maxRecDepth 100000 in
theorem w_650 : mp_w (Jvm.Cond.instanceMethod ({ cls := "java/lang/Exception", name := "<init>", desc := "(Ljava/lang/String;)V" } : Jvm.MethodName)) := ⟨List.mem_append_right _ (List.mem_of_getElem? (i := 650) rfl), rfl⟩
set_option maxRecDepth 100000 in
theorem w_651 : mp_w (Jvm.Cond.code ({ cls := "java/lang/Exception", name := "<init>", desc := "(Ljava/lang/String;)V" } : Jvm.MethodName) prog_15_method_2_code (2 : Nat) (Option.none : Option Jvm.ClassFile.FieldType)) := ⟨List.mem_append_right _ (List.mem_of_getElem? (i := 651) rfl), rfl⟩
set_option maxRecDepth 100000 in
theorem w_652 : mp_w (Jvm.Cond.methodLink "java/lang/Exception" (7 : Nat) ({ cls := "java/lang/Throwable", name := "<init>", desc := "(Ljava/lang/String;)V" } : Jvm.MethodName)) := ⟨List.mem_append_right _ (List.mem_of_getElem? (i := 652) rfl), rfl⟩
set_option maxRecDepth 100000 in
theorem w_653 : mp_w (Jvm.Cond.instanceMethod ({ cls := "java/lang/Throwable", name := "<init>", desc := "(Ljava/lang/String;)V" } : Jvm.MethodName)) := ⟨List.mem_append_right _ (List.mem_of_getElem? (i := 653) rfl), rfl⟩
set_option maxRecDepth 100000 in
theorem w_654 : mp_w (Jvm.Cond.code ({ cls := "java/lang/Throwable", name := "<init>", desc := "(Ljava/lang/String;)V" } : Jvm.MethodName) prog_28_method_2_code (2 : Nat) (Option.none : Option Jvm.ClassFile.FieldType)) := ⟨List.mem_append_right _ (List.mem_of_getElem? (i := 654) rfl), rfl⟩
set_option maxRecDepth 100000 in
theorem w_655 : mp_w (Jvm.Cond.methodLink "ScriptDesk$Machine" (119 : Nat) ({ cls := "ScriptDesk$Thing", name := "<init>", desc := "([B)V" } : Jvm.MethodName)) := ⟨List.mem_append_right _ (List.mem_of_getElem? (i := 655) rfl), rfl⟩
set_option maxRecDepth 100000 in
theorem w_656 : mp_w (Jvm.Cond.methodLink "ScriptDesk$Machine" (122 : Nat) ({ cls := "ScriptDesk$Stack", name := "push", desc := "(LScriptDesk$Thing;)Z" } : Jvm.MethodName)) := ⟨List.mem_append_right _ (List.mem_of_getElem? (i := 656) rfl), rfl⟩
set_option maxRecDepth 100000 in
theorem w_657 : mp_w (Jvm.Cond.instanceMethod ({ cls := "ScriptDesk$Stack", name := "push", desc := "(LScriptDesk$Thing;)Z" } : Jvm.MethodName)) := ⟨List.mem_append_right _ (List.mem_of_getElem? (i := 657) rfl), rfl⟩
set_option maxRecDepth 100000 in
theorem w_658 : mp_w (Jvm.Cond.selects "ScriptDesk$Stack" ({ cls := "ScriptDesk$Stack", name := "push", desc := "(LScriptDesk$Thing;)Z" } : Jvm.MethodName) ({ cls := "ScriptDesk$Stack", name := "push", desc := "(LScriptDesk$Thing;)Z" } : Jvm.MethodName)) := ⟨List.mem_append_right _ (List.mem_of_getElem? (i := 658) rfl), rfl⟩
set_option maxRecDepth 100000 in
theorem w_659 : mp_w (Jvm.Cond.code ({ cls := "ScriptDesk$Stack", name := "push", desc := "(LScriptDesk$Thing;)Z" } : Jvm.MethodName) prog_7_method_6_code (2 : Nat) (Option.some Jvm.ClassFile.FieldType.boolean)) := ⟨List.mem_append_right _ (List.mem_of_getElem? (i := 659) rfl), rfl⟩
set_option maxRecDepth 100000 in
theorem w_660 : mp_w (Jvm.Cond.methodLink "ScriptDesk$Machine" (81 : Nat) ({ cls := "ScriptDesk$Machine", name := "perform", desc := "(I)Z" } : Jvm.MethodName)) := ⟨List.mem_append_right _ (List.mem_of_getElem? (i := 660) rfl), rfl⟩
set_option maxRecDepth 100000 in
theorem w_662 : mp_w (Jvm.Cond.instanceMethod ({ cls := "ScriptDesk$Machine", name := "perform", desc := "(I)Z" } : Jvm.MethodName)) := ⟨List.mem_append_right _ (List.mem_of_getElem? (i := 662) rfl), rfl⟩
set_option maxRecDepth 100000 in
theorem w_663 : mp_w (Jvm.Cond.code ({ cls := "ScriptDesk$Machine", name := "perform", desc := "(I)Z" } : Jvm.MethodName) prog_4_method_9_code (2 : Nat) (Option.some Jvm.ClassFile.FieldType.boolean)) := ⟨List.mem_append_right _ (List.mem_of_getElem? (i := 663) rfl), rfl⟩
set_option maxRecDepth 100000 in
theorem w_664 : mp_w (Jvm.Cond.methodLink "ScriptDesk$Machine" (126 : Nat) ({ cls := "ScriptDesk$Machine", name := "constant", desc := "(I)Z" } : Jvm.MethodName)) := ⟨List.mem_append_right _ (List.mem_of_getElem? (i := 664) rfl), rfl⟩
set_option maxRecDepth 100000 in
theorem w_666 : mp_w (Jvm.Cond.instanceMethod ({ cls := "ScriptDesk$Machine", name := "constant", desc := "(I)Z" } : Jvm.MethodName)) := ⟨List.mem_append_right _ (List.mem_of_getElem? (i := 666) rfl), rfl⟩
set_option maxRecDepth 100000 in
theorem w_667 : mp_w (Jvm.Cond.code ({ cls := "ScriptDesk$Machine", name := "constant", desc := "(I)Z" } : Jvm.MethodName) prog_4_method_10_code (2 : Nat) (Option.some Jvm.ClassFile.FieldType.boolean)) := ⟨List.mem_append_right _ (List.mem_of_getElem? (i := 667) rfl), rfl⟩
set_option maxRecDepth 100000 in
theorem w_668 : mp_w (Jvm.Cond.constantLong "ScriptDesk$Machine" (153 : Nat) (-1 : Int64)) := ⟨List.mem_append_right _ (List.mem_of_getElem? (i := 668) rfl), rfl⟩
set_option maxRecDepth 100000 in
theorem w_669 : mp_w (Jvm.Cond.methodLink "ScriptDesk$Machine" (155 : Nat) ({ cls := "ScriptDesk$Machine", name := "pushNumber", desc := "(J)Z" } : Jvm.MethodName)) := ⟨List.mem_append_right _ (List.mem_of_getElem? (i := 669) rfl), rfl⟩
set_option maxRecDepth 100000 in
theorem w_671 : mp_w (Jvm.Cond.instanceMethod ({ cls := "ScriptDesk$Machine", name := "pushNumber", desc := "(J)Z" } : Jvm.MethodName)) := ⟨List.mem_append_right _ (List.mem_of_getElem? (i := 671) rfl), rfl⟩
set_option maxRecDepth 100000 in
theorem w_672 : mp_w (Jvm.Cond.code ({ cls := "ScriptDesk$Machine", name := "pushNumber", desc := "(J)Z" } : Jvm.MethodName) prog_4_method_24_code (3 : Nat) (Option.some Jvm.ClassFile.FieldType.boolean)) := ⟨List.mem_append_right _ (List.mem_of_getElem? (i := 672) rfl), rfl⟩
set_option maxRecDepth 100000 in
theorem w_673 : mp_w (Jvm.Cond.methodLink "ScriptDesk$Machine" (129 : Nat) ({ cls := "ScriptDesk$Machine", name := "arrange", desc := "(I)Z" } : Jvm.MethodName)) := ⟨List.mem_append_right _ (List.mem_of_getElem? (i := 673) rfl), rfl⟩
set_option maxRecDepth 100000 in
theorem w_675 : mp_w (Jvm.Cond.instanceMethod ({ cls := "ScriptDesk$Machine", name := "arrange", desc := "(I)Z" } : Jvm.MethodName)) := ⟨List.mem_append_right _ (List.mem_of_getElem? (i := 675) rfl), rfl⟩
set_option maxRecDepth 100000 in
theorem w_676 : mp_w (Jvm.Cond.code ({ cls := "ScriptDesk$Machine", name := "arrange", desc := "(I)Z" } : Jvm.MethodName) prog_4_method_11_code (2 : Nat) (Option.some Jvm.ClassFile.FieldType.boolean)) := ⟨List.mem_append_right _ (List.mem_of_getElem? (i := 676) rfl), rfl⟩
set_option maxRecDepth 100000 in
theorem w_677 : mp_w (Jvm.Cond.methodLink "ScriptDesk$Machine" (84 : Nat) ({ cls := "ScriptDesk$Stack", name := "count", desc := "()I" } : Jvm.MethodName)) := ⟨List.mem_append_right _ (List.mem_of_getElem? (i := 677) rfl), rfl⟩
set_option maxRecDepth 100000 in
theorem w_678 : mp_w (Jvm.Cond.methodLink "ScriptDesk$Machine" (159 : Nat) ({ cls := "ScriptDesk$Code", name := "needs", desc := "(I)I" } : Jvm.MethodName)) := ⟨List.mem_append_right _ (List.mem_of_getElem? (i := 678) rfl), rfl⟩
set_option maxRecDepth 100000 in
theorem w_679 : mp_w (Jvm.Cond.static ({ cls := "ScriptDesk$Code", name := "needs", desc := "(I)I" } : Jvm.MethodName)) := ⟨List.mem_append_right _ (List.mem_of_getElem? (i := 679) rfl), rfl⟩
set_option maxRecDepth 100000 in
theorem w_680 : mp_w (Jvm.Cond.code ({ cls := "ScriptDesk$Code", name := "needs", desc := "(I)I" } : Jvm.MethodName) prog_3_method_5_code (1 : Nat) (Option.some Jvm.ClassFile.FieldType.int)) := ⟨List.mem_append_right _ (List.mem_of_getElem? (i := 680) rfl), rfl⟩
set_option maxRecDepth 100000 in
theorem w_681 : mp_w (Jvm.Cond.methodLink "ScriptDesk$Machine" (163 : Nat) ({ cls := "ScriptDesk$Stack", name := "drop", desc := "(I)Z" } : Jvm.MethodName)) := ⟨List.mem_append_right _ (List.mem_of_getElem? (i := 681) rfl), rfl⟩
set_option maxRecDepth 100000 in
theorem w_682 : mp_w (Jvm.Cond.instanceMethod ({ cls := "ScriptDesk$Stack", name := "drop", desc := "(I)Z" } : Jvm.MethodName)) := ⟨List.mem_append_right _ (List.mem_of_getElem? (i := 682) rfl), rfl⟩
set_option maxRecDepth 100000 in
theorem w_683 : mp_w (Jvm.Cond.selects "ScriptDesk$Stack" ({ cls := "ScriptDesk$Stack", name := "drop", desc := "(I)Z" } : Jvm.MethodName) ({ cls := "ScriptDesk$Stack", name := "drop", desc := "(I)Z" } : Jvm.MethodName)) := ⟨List.mem_append_right _ (List.mem_of_getElem? (i := 683) rfl), rfl⟩
set_option maxRecDepth 100000 in
theorem w_684 : mp_w (Jvm.Cond.code ({ cls := "ScriptDesk$Stack", name := "drop", desc := "(I)Z" } : Jvm.MethodName) prog_7_method_9_code (2 : Nat) (Option.some Jvm.ClassFile.FieldType.boolean)) := ⟨List.mem_append_right _ (List.mem_of_getElem? (i := 684) rfl), rfl⟩
set_option maxRecDepth 100000 in
theorem w_685 : mp_w (Jvm.Cond.methodLink "ScriptDesk$Machine" (166 : Nat) ({ cls := "ScriptDesk$Stack", name := "peek", desc := "(I)LScriptDesk$Thing;" } : Jvm.MethodName)) := ⟨List.mem_append_right _ (List.mem_of_getElem? (i := 685) rfl), rfl⟩
set_option maxRecDepth 100000 in
theorem w_686 : mp_w (Jvm.Cond.instanceMethod ({ cls := "ScriptDesk$Stack", name := "peek", desc := "(I)LScriptDesk$Thing;" } : Jvm.MethodName)) := ⟨List.mem_append_right _ (List.mem_of_getElem? (i := 686) rfl), rfl⟩
set_option maxRecDepth 100000 in
theorem w_687 : mp_w (Jvm.Cond.selects "ScriptDesk$Stack" ({ cls := "ScriptDesk$Stack", name := "peek", desc := "(I)LScriptDesk$Thing;" } : Jvm.MethodName) ({ cls := "ScriptDesk$Stack", name := "peek", desc := "(I)LScriptDesk$Thing;" } : Jvm.MethodName)) := ⟨List.mem_append_right _ (List.mem_of_getElem? (i := 687) rfl), rfl⟩
set_option maxRecDepth 100000 in
theorem w_688 : mp_w (Jvm.Cond.code ({ cls := "ScriptDesk$Stack", name := "peek", desc := "(I)LScriptDesk$Thing;" } : Jvm.MethodName) prog_7_method_5_code (2 : Nat) (Option.some (Jvm.ClassFile.FieldType.object "ScriptDesk$Thing"))) := ⟨List.mem_append_right _ (List.mem_of_getElem? (i := 688) rfl), rfl⟩
set_option maxRecDepth 100000 in
theorem w_689 : mp_w (Jvm.Cond.methodLink "ScriptDesk$Stack" (26 : Nat) ({ cls := "ScriptDesk$Stack", name := "holds", desc := "(I)Z" } : Jvm.MethodName)) := ⟨List.mem_append_right _ (List.mem_of_getElem? (i := 689) rfl), rfl⟩
set_option maxRecDepth 100000 in
theorem w_690 : mp_w (Jvm.Cond.methodLink "ScriptDesk$Machine" (170 : Nat) ({ cls := "ScriptDesk$Machine", name := "nip", desc := "()Z" } : Jvm.MethodName)) := ⟨List.mem_append_right _ (List.mem_of_getElem? (i := 690) rfl), rfl⟩
set_option maxRecDepth 100000 in
theorem w_692 : mp_w (Jvm.Cond.instanceMethod ({ cls := "ScriptDesk$Machine", name := "nip", desc := "()Z" } : Jvm.MethodName)) := ⟨List.mem_append_right _ (List.mem_of_getElem? (i := 692) rfl), rfl⟩
set_option maxRecDepth 100000 in
theorem w_693 : mp_w (Jvm.Cond.code ({ cls := "ScriptDesk$Machine", name := "nip", desc := "()Z" } : Jvm.MethodName) prog_4_method_12_code (1 : Nat) (Option.some Jvm.ClassFile.FieldType.boolean)) := ⟨List.mem_append_right _ (List.mem_of_getElem? (i := 693) rfl), rfl⟩
set_option maxRecDepth 100000 in
theorem w_694 : mp_w (Jvm.Cond.methodLink "ScriptDesk$Machine" (176 : Nat) ({ cls := "ScriptDesk$Stack", name := "take", desc := "(I)LScriptDesk$Thing;" } : Jvm.MethodName)) := ⟨List.mem_append_right _ (List.mem_of_getElem? (i := 694) rfl), rfl⟩
set_option maxRecDepth 100000 in
theorem w_695 : mp_w (Jvm.Cond.instanceMethod ({ cls := "ScriptDesk$Stack", name := "take", desc := "(I)LScriptDesk$Thing;" } : Jvm.MethodName)) := ⟨List.mem_append_right _ (List.mem_of_getElem? (i := 695) rfl), rfl⟩
set_option maxRecDepth 100000 in
theorem w_696 : mp_w (Jvm.Cond.selects "ScriptDesk$Stack" ({ cls := "ScriptDesk$Stack", name := "take", desc := "(I)LScriptDesk$Thing;" } : Jvm.MethodName) ({ cls := "ScriptDesk$Stack", name := "take", desc := "(I)LScriptDesk$Thing;" } : Jvm.MethodName)) := ⟨List.mem_append_right _ (List.mem_of_getElem? (i := 696) rfl), rfl⟩
set_option maxRecDepth 100000 in
theorem w_697 : mp_w (Jvm.Cond.code ({ cls := "ScriptDesk$Stack", name := "take", desc := "(I)LScriptDesk$Thing;" } : Jvm.MethodName) prog_7_method_8_code (4 : Nat) (Option.some (Jvm.ClassFile.FieldType.object "ScriptDesk$Thing"))) := ⟨List.mem_append_right _ (List.mem_of_getElem? (i := 697) rfl), rfl⟩
set_option maxRecDepth 100000 in
theorem w_698 : mp_w (Jvm.Cond.methodLink "ScriptDesk$Stack" (30 : Nat) ({ cls := "ScriptDesk$Stack", name := "peek", desc := "(I)LScriptDesk$Thing;" } : Jvm.MethodName)) := ⟨List.mem_append_right _ (List.mem_of_getElem? (i := 698) rfl), rfl⟩
set_option maxRecDepth 100000 in
theorem w_699 : mp_w (Jvm.Cond.methodLink "ScriptDesk$Machine" (173 : Nat) ({ cls := "ScriptDesk$Machine", name := "fetch", desc := "(Z)Z" } : Jvm.MethodName)) := ⟨List.mem_append_right _ (List.mem_of_getElem? (i := 699) rfl), rfl⟩
set_option maxRecDepth 100000 in
theorem w_701 : mp_w (Jvm.Cond.instanceMethod ({ cls := "ScriptDesk$Machine", name := "fetch", desc := "(Z)Z" } : Jvm.MethodName)) := ⟨List.mem_append_right _ (List.mem_of_getElem? (i := 701) rfl), rfl⟩
set_option maxRecDepth 100000 in
theorem w_702 : mp_w (Jvm.Cond.code ({ cls := "ScriptDesk$Machine", name := "fetch", desc := "(Z)Z" } : Jvm.MethodName) prog_4_method_13_code (3 : Nat) (Option.some Jvm.ClassFile.FieldType.boolean)) := ⟨List.mem_append_right _ (List.mem_of_getElem? (i := 702) rfl), rfl⟩
set_option maxRecDepth 100000 in
theorem w_703 : mp_w (Jvm.Cond.methodLink "ScriptDesk$Machine" (185 : Nat) ({ cls := "ScriptDesk$Machine", name := "countAt", desc := "(II)I" } : Jvm.MethodName)) := ⟨List.mem_append_right _ (List.mem_of_getElem? (i := 703) rfl), rfl⟩
set_option maxRecDepth 100000 in
theorem w_705 : mp_w (Jvm.Cond.instanceMethod ({ cls := "ScriptDesk$Machine", name := "countAt", desc := "(II)I" } : Jvm.MethodName)) := ⟨List.mem_append_right _ (List.mem_of_getElem? (i := 705) rfl), rfl⟩
set_option maxRecDepth 100000 in
theorem w_706 : mp_w (Jvm.Cond.code ({ cls := "ScriptDesk$Machine", name := "countAt", desc := "(II)I" } : Jvm.MethodName) prog_4_method_23_code (5 : Nat) (Option.some Jvm.ClassFile.FieldType.int)) := ⟨List.mem_append_right _ (List.mem_of_getElem? (i := 706) rfl), rfl⟩
set_option maxRecDepth 100000 in
theorem w_707 : mp_w (Jvm.Cond.methodLink "ScriptDesk$Machine" (228 : Nat) ({ cls := "ScriptDesk$Thing", name := "isNumber", desc := "()Z" } : Jvm.MethodName)) := ⟨List.mem_append_right _ (List.mem_of_getElem? (i := 707) rfl), rfl⟩
set_option maxRecDepth 100000 in
theorem w_708 : mp_w (Jvm.Cond.instanceMethod ({ cls := "ScriptDesk$Thing", name := "isNumber", desc := "()Z" } : Jvm.MethodName)) := ⟨List.mem_append_right _ (List.mem_of_getElem? (i := 708) rfl), rfl⟩
set_option maxRecDepth 100000 in
theorem w_709 : mp_w (Jvm.Cond.selects "ScriptDesk$Thing" ({ cls := "ScriptDesk$Thing", name := "isNumber", desc := "()Z" } : Jvm.MethodName) ({ cls := "ScriptDesk$Thing", name := "isNumber", desc := "()Z" } : Jvm.MethodName)) := ⟨List.mem_append_right _ (List.mem_of_getElem? (i := 709) rfl), rfl⟩
set_option maxRecDepth 100000 in
theorem w_710 : mp_w (Jvm.Cond.code ({ cls := "ScriptDesk$Thing", name := "isNumber", desc := "()Z" } : Jvm.MethodName) prog_9_method_8_code (1 : Nat) (Option.some Jvm.ClassFile.FieldType.boolean)) := ⟨List.mem_append_right _ (List.mem_of_getElem? (i := 710) rfl), rfl⟩
set_option maxRecDepth 100000 in
theorem w_711 : mp_w (Jvm.Cond.methodLink "ScriptDesk$Machine" (198 : Nat) ({ cls := "ScriptDesk$Thing", name := "toNumber", desc := "()J" } : Jvm.MethodName)) := ⟨List.mem_append_right _ (List.mem_of_getElem? (i := 711) rfl), rfl⟩
set_option maxRecDepth 100000 in
theorem w_712 : mp_w (Jvm.Cond.instanceMethod ({ cls := "ScriptDesk$Thing", name := "toNumber", desc := "()J" } : Jvm.MethodName)) := ⟨List.mem_append_right _ (List.mem_of_getElem? (i := 712) rfl), rfl⟩
set_option maxRecDepth 100000 in
theorem w_713 : mp_w (Jvm.Cond.selects "ScriptDesk$Thing" ({ cls := "ScriptDesk$Thing", name := "toNumber", desc := "()J" } : Jvm.MethodName) ({ cls := "ScriptDesk$Thing", name := "toNumber", desc := "()J" } : Jvm.MethodName)) := ⟨List.mem_append_right _ (List.mem_of_getElem? (i := 713) rfl), rfl⟩
set_option maxRecDepth 100000 in
theorem w_714 : mp_w (Jvm.Cond.code ({ cls := "ScriptDesk$Thing", name := "toNumber", desc := "()J" } : Jvm.MethodName) prog_9_method_9_code (5 : Nat) (Option.some Jvm.ClassFile.FieldType.long)) := ⟨List.mem_append_right _ (List.mem_of_getElem? (i := 714) rfl), rfl⟩
set_option maxRecDepth 100000 in
theorem w_715 : mp_w (Jvm.Cond.methodLink "ScriptDesk$Machine" (179 : Nat) ({ cls := "ScriptDesk$Machine", name := "tuck", desc := "()Z" } : Jvm.MethodName)) := ⟨List.mem_append_right _ (List.mem_of_getElem? (i := 715) rfl), rfl⟩
set_option maxRecDepth 100000 in
theorem w_717 : mp_w (Jvm.Cond.instanceMethod ({ cls := "ScriptDesk$Machine", name := "tuck", desc := "()Z" } : Jvm.MethodName)) := ⟨List.mem_append_right _ (List.mem_of_getElem? (i := 717) rfl), rfl⟩
set_option maxRecDepth 100000 in
theorem w_718 : mp_w (Jvm.Cond.code ({ cls := "ScriptDesk$Machine", name := "tuck", desc := "()Z" } : Jvm.MethodName) prog_4_method_14_code (2 : Nat) (Option.some Jvm.ClassFile.FieldType.boolean)) := ⟨List.mem_append_right _ (List.mem_of_getElem? (i := 718) rfl), rfl⟩
set_option maxRecDepth 100000 in
theorem w_719 : mp_w (Jvm.Cond.methodLink "ScriptDesk$Machine" (182 : Nat) ({ cls := "ScriptDesk$Thing", name := "length", desc := "()I" } : Jvm.MethodName)) := ⟨List.mem_append_right _ (List.mem_of_getElem? (i := 719) rfl), rfl⟩
set_option maxRecDepth 100000 in
theorem w_720 : mp_w (Jvm.Cond.instanceMethod ({ cls := "ScriptDesk$Thing", name := "length", desc := "()I" } : Jvm.MethodName)) := ⟨List.mem_append_right _ (List.mem_of_getElem? (i := 720) rfl), rfl⟩
set_option maxRecDepth 100000 in
theorem w_721 : mp_w (Jvm.Cond.selects "ScriptDesk$Thing" ({ cls := "ScriptDesk$Thing", name := "length", desc := "()I" } : Jvm.MethodName) ({ cls := "ScriptDesk$Thing", name := "length", desc := "()I" } : Jvm.MethodName)) := ⟨List.mem_append_right _ (List.mem_of_getElem? (i := 721) rfl), rfl⟩
set_option maxRecDepth 100000 in
theorem w_722 : mp_w (Jvm.Cond.code ({ cls := "ScriptDesk$Thing", name := "length", desc := "()I" } : Jvm.MethodName) prog_9_method_4_code (1 : Nat) (Option.some Jvm.ClassFile.FieldType.int)) := ⟨List.mem_append_right _ (List.mem_of_getElem? (i := 722) rfl), rfl⟩
set_option maxRecDepth 100000 in
theorem w_723 : mp_w (Jvm.Cond.methodLink "ScriptDesk$Machine" (132 : Nat) ({ cls := "ScriptDesk$Machine", name := "compare", desc := "(I)Z" } : Jvm.MethodName)) := ⟨List.mem_append_right _ (List.mem_of_getElem? (i := 723) rfl), rfl⟩
set_option maxRecDepth 100000 in
theorem w_725 : mp_w (Jvm.Cond.instanceMethod ({ cls := "ScriptDesk$Machine", name := "compare", desc := "(I)Z" } : Jvm.MethodName)) := ⟨List.mem_append_right _ (List.mem_of_getElem? (i := 725) rfl), rfl⟩
set_option maxRecDepth 100000 in
theorem w_726 : mp_w (Jvm.Cond.code ({ cls := "ScriptDesk$Machine", name := "compare", desc := "(I)Z" } : Jvm.MethodName) prog_4_method_15_code (3 : Nat) (Option.some Jvm.ClassFile.FieldType.boolean)) := ⟨List.mem_append_right _ (List.mem_of_getElem? (i := 726) rfl), rfl⟩
set_option maxRecDepth 100000 in
theorem w_727 : mp_w (Jvm.Cond.methodLink "ScriptDesk$Machine" (189 : Nat) ({ cls := "ScriptDesk$Thing", name := "same", desc := "(LScriptDesk$Thing;)Z" } : Jvm.MethodName)) := ⟨List.mem_append_right _ (List.mem_of_getElem? (i := 727) rfl), rfl⟩
set_option maxRecDepth 100000 in
theorem w_728 : mp_w (Jvm.Cond.instanceMethod ({ cls := "ScriptDesk$Thing", name := "same", desc := "(LScriptDesk$Thing;)Z" } : Jvm.MethodName)) := ⟨List.mem_append_right _ (List.mem_of_getElem? (i := 728) rfl), rfl⟩
set_option maxRecDepth 100000 in
theorem w_729 : mp_w (Jvm.Cond.selects "ScriptDesk$Thing" ({ cls := "ScriptDesk$Thing", name := "same", desc := "(LScriptDesk$Thing;)Z" } : Jvm.MethodName) ({ cls := "ScriptDesk$Thing", name := "same", desc := "(LScriptDesk$Thing;)Z" } : Jvm.MethodName)) := ⟨List.mem_append_right _ (List.mem_of_getElem? (i := 729) rfl), rfl⟩
set_option maxRecDepth 100000 in
theorem w_730 : mp_w (Jvm.Cond.code ({ cls := "ScriptDesk$Thing", name := "same", desc := "(LScriptDesk$Thing;)Z" } : Jvm.MethodName) prog_9_method_10_code (3 : Nat) (Option.some Jvm.ClassFile.FieldType.boolean)) := ⟨List.mem_append_right _ (List.mem_of_getElem? (i := 730) rfl), rfl⟩
set_option maxRecDepth 100000 in
theorem w_731 : mp_w (Jvm.Cond.methodLink "ScriptDesk$Machine" (192 : Nat) ({ cls := "ScriptDesk$Machine", name := "pushTruth", desc := "(Z)Z" } : Jvm.MethodName)) := ⟨List.mem_append_right _ (List.mem_of_getElem? (i := 731) rfl), rfl⟩
set_option maxRecDepth 100000 in
theorem w_733 : mp_w (Jvm.Cond.instanceMethod ({ cls := "ScriptDesk$Machine", name := "pushTruth", desc := "(Z)Z" } : Jvm.MethodName)) := ⟨List.mem_append_right _ (List.mem_of_getElem? (i := 733) rfl), rfl⟩
set_option maxRecDepth 100000 in
theorem w_734 : mp_w (Jvm.Cond.code ({ cls := "ScriptDesk$Machine", name := "pushTruth", desc := "(Z)Z" } : Jvm.MethodName) prog_4_method_25_code (2 : Nat) (Option.some Jvm.ClassFile.FieldType.boolean)) := ⟨List.mem_append_right _ (List.mem_of_getElem? (i := 734) rfl), rfl⟩
set_option maxRecDepth 100000 in
theorem w_735 : mp_w (Jvm.Cond.methodLink "ScriptDesk$Machine" (135 : Nat) ({ cls := "ScriptDesk$Machine", name := "changeNumber", desc := "(I)Z" } : Jvm.MethodName)) := ⟨List.mem_append_right _ (List.mem_of_getElem? (i := 735) rfl), rfl⟩
set_option maxRecDepth 100000 in
theorem w_737 : mp_w (Jvm.Cond.instanceMethod ({ cls := "ScriptDesk$Machine", name := "changeNumber", desc := "(I)Z" } : Jvm.MethodName)) := ⟨List.mem_append_right _ (List.mem_of_getElem? (i := 737) rfl), rfl⟩
set_option maxRecDepth 100000 in
theorem w_738 : mp_w (Jvm.Cond.code ({ cls := "ScriptDesk$Machine", name := "changeNumber", desc := "(I)Z" } : Jvm.MethodName) prog_4_method_16_code (4 : Nat) (Option.some Jvm.ClassFile.FieldType.boolean)) := ⟨List.mem_append_right _ (List.mem_of_getElem? (i := 738) rfl), rfl⟩
set_option maxRecDepth 100000 in
theorem w_739 : mp_w (Jvm.Cond.methodLink "ScriptDesk$Machine" (195 : Nat) ({ cls := "ScriptDesk$Stack", name := "holdsNumbers", desc := "(I)Z" } : Jvm.MethodName)) := ⟨List.mem_append_right _ (List.mem_of_getElem? (i := 739) rfl), rfl⟩
set_option maxRecDepth 100000 in
theorem w_740 : mp_w (Jvm.Cond.instanceMethod ({ cls := "ScriptDesk$Stack", name := "holdsNumbers", desc := "(I)Z" } : Jvm.MethodName)) := ⟨List.mem_append_right _ (List.mem_of_getElem? (i := 740) rfl), rfl⟩
set_option maxRecDepth 100000 in
theorem w_741 : mp_w (Jvm.Cond.selects "ScriptDesk$Stack" ({ cls := "ScriptDesk$Stack", name := "holdsNumbers", desc := "(I)Z" } : Jvm.MethodName) ({ cls := "ScriptDesk$Stack", name := "holdsNumbers", desc := "(I)Z" } : Jvm.MethodName)) := ⟨List.mem_append_right _ (List.mem_of_getElem? (i := 741) rfl), rfl⟩
set_option maxRecDepth 100000 in
theorem w_742 : mp_w (Jvm.Cond.code ({ cls := "ScriptDesk$Stack", name := "holdsNumbers", desc := "(I)Z" } : Jvm.MethodName) prog_7_method_10_code (3 : Nat) (Option.some Jvm.ClassFile.FieldType.boolean)) := ⟨List.mem_append_right _ (List.mem_of_getElem? (i := 742) rfl), rfl⟩
set_option maxRecDepth 100000 in
theorem w_743 : mp_w (Jvm.Cond.methodLink "ScriptDesk$Stack" (34 : Nat) ({ cls := "ScriptDesk$Thing", name := "isNumber", desc := "()Z" } : Jvm.MethodName)) := ⟨List.mem_append_right _ (List.mem_of_getElem? (i := 743) rfl), rfl⟩
set_option maxRecDepth 100000 in
theorem w_744 : mp_w (Jvm.Cond.methodLink "ScriptDesk$Machine" (202 : Nat) ({ cls := "java/lang/Math", name := "abs", desc := "(J)J" } : Jvm.MethodName)) := ⟨List.mem_append_right _ (List.mem_of_getElem? (i := 744) rfl), rfl⟩
set_option maxRecDepth 100000 in
theorem w_745 : mp_w (Jvm.Cond.methodLink "ScriptDesk$Machine" (138 : Nat) ({ cls := "ScriptDesk$Machine", name := "joinNumbers", desc := "(I)Z" } : Jvm.MethodName)) := ⟨List.mem_append_right _ (List.mem_of_getElem? (i := 745) rfl), rfl⟩
set_option maxRecDepth 100000 in
theorem w_747 : mp_w (Jvm.Cond.instanceMethod ({ cls := "ScriptDesk$Machine", name := "joinNumbers", desc := "(I)Z" } : Jvm.MethodName)) := ⟨List.mem_append_right _ (List.mem_of_getElem? (i := 747) rfl), rfl⟩
set_option maxRecDepth 100000 in
theorem w_748 : mp_w (Jvm.Cond.code ({ cls := "ScriptDesk$Machine", name := "joinNumbers", desc := "(I)Z" } : Jvm.MethodName) prog_4_method_17_code (6 : Nat) (Option.some Jvm.ClassFile.FieldType.boolean)) := ⟨List.mem_append_right _ (List.mem_of_getElem? (i := 748) rfl), rfl⟩
set_option maxRecDepth 100000 in
theorem w_749 : mp_w (Jvm.Cond.methodLink "ScriptDesk$Machine" (141 : Nat) ({ cls := "ScriptDesk$Machine", name := "orderNumbers", desc := "(I)Z" } : Jvm.MethodName)) := ⟨List.mem_append_right _ (List.mem_of_getElem? (i := 749) rfl), rfl⟩
set_option maxRecDepth 100000 in
theorem w_751 : mp_w (Jvm.Cond.instanceMethod ({ cls := "ScriptDesk$Machine", name := "orderNumbers", desc := "(I)Z" } : Jvm.MethodName)) := ⟨List.mem_append_right _ (List.mem_of_getElem? (i := 751) rfl), rfl⟩
set_option maxRecDepth 100000 in
theorem w_752 : mp_w (Jvm.Cond.code ({ cls := "ScriptDesk$Machine", name := "orderNumbers", desc := "(I)Z" } : Jvm.MethodName) prog_4_method_18_code (6 : Nat) (Option.some Jvm.ClassFile.FieldType.boolean)) := ⟨List.mem_append_right _ (List.mem_of_getElem? (i := 752) rfl), rfl⟩
set_option maxRecDepth 100000 in
theorem w_753 : mp_w (Jvm.Cond.methodLink "ScriptDesk$Machine" (208 : Nat) ({ cls := "java/lang/Math", name := "min", desc := "(JJ)J" } : Jvm.MethodName)) := ⟨List.mem_append_right _ (List.mem_of_getElem? (i := 753) rfl), rfl⟩
set_option maxRecDepth 100000 in
theorem w_754 : mp_w (Jvm.Cond.static ({ cls := "java/lang/Math", name := "min", desc := "(JJ)J" } : Jvm.MethodName)) := ⟨List.mem_append_right _ (List.mem_of_getElem? (i := 754) rfl), rfl⟩
set_option maxRecDepth 100000 in
theorem w_755 : mp_w (Jvm.Cond.code ({ cls := "java/lang/Math", name := "min", desc := "(JJ)J" } : Jvm.MethodName) prog_21_method_70_code (4 : Nat) (Option.some Jvm.ClassFile.FieldType.long)) := ⟨List.mem_append_right _ (List.mem_of_getElem? (i := 755) rfl), rfl⟩
set_option maxRecDepth 100000 in
theorem w_756 : mp_w (Jvm.Cond.methodLink "ScriptDesk$Machine" (212 : Nat) ({ cls := "java/lang/Math", name := "max", desc := "(JJ)J" } : Jvm.MethodName)) := ⟨List.mem_append_right _ (List.mem_of_getElem? (i := 756) rfl), rfl⟩
set_option maxRecDepth 100000 in
theorem w_757 : mp_w (Jvm.Cond.static ({ cls := "java/lang/Math", name := "max", desc := "(JJ)J" } : Jvm.MethodName)) := ⟨List.mem_append_right _ (List.mem_of_getElem? (i := 757) rfl), rfl⟩
set_option maxRecDepth 100000 in
theorem w_758 : mp_w (Jvm.Cond.code ({ cls := "java/lang/Math", name := "max", desc := "(JJ)J" } : Jvm.MethodName) prog_21_method_66_code (4 : Nat) (Option.some Jvm.ClassFile.FieldType.long)) := ⟨List.mem_append_right _ (List.mem_of_getElem? (i := 758) rfl), rfl⟩
set_option maxRecDepth 100000 in
theorem w_759 : mp_w (Jvm.Cond.methodLink "ScriptDesk$Machine" (144 : Nat) ({ cls := "ScriptDesk$Machine", name := "within", desc := "()Z" } : Jvm.MethodName)) := ⟨List.mem_append_right _ (List.mem_of_getElem? (i := 759) rfl), rfl⟩
set_option maxRecDepth 100000 in
theorem w_761 : mp_w (Jvm.Cond.instanceMethod ({ cls := "ScriptDesk$Machine", name := "within", desc := "()Z" } : Jvm.MethodName)) := ⟨List.mem_append_right _ (List.mem_of_getElem? (i := 761) rfl), rfl⟩
set_option maxRecDepth 100000 in
theorem w_762 : mp_w (Jvm.Cond.code ({ cls := "ScriptDesk$Machine", name := "within", desc := "()Z" } : Jvm.MethodName) prog_4_method_19_code (7 : Nat) (Option.some Jvm.ClassFile.FieldType.boolean)) := ⟨List.mem_append_right _ (List.mem_of_getElem? (i := 762) rfl), rfl⟩
set_option maxRecDepth 100000 in
theorem w_763 : mp_w (Jvm.Cond.methodLink "ScriptDesk$Machine" (147 : Nat) ({ cls := "ScriptDesk$Machine", name := "sum", desc := "(I)Z" } : Jvm.MethodName)) := ⟨List.mem_append_right _ (List.mem_of_getElem? (i := 763) rfl), rfl⟩
set_option maxRecDepth 100000 in
theorem w_765 : mp_w (Jvm.Cond.instanceMethod ({ cls := "ScriptDesk$Machine", name := "sum", desc := "(I)Z" } : Jvm.MethodName)) := ⟨List.mem_append_right _ (List.mem_of_getElem? (i := 765) rfl), rfl⟩
set_option maxRecDepth 100000 in
theorem w_766 : mp_w (Jvm.Cond.code ({ cls := "ScriptDesk$Machine", name := "sum", desc := "(I)Z" } : Jvm.MethodName) prog_4_method_20_code (4 : Nat) (Option.some Jvm.ClassFile.FieldType.boolean)) := ⟨List.mem_append_right _ (List.mem_of_getElem? (i := 766) rfl), rfl⟩
set_option maxRecDepth 100000 in
theorem w_767 : mp_w (Jvm.Cond.methodLink "ScriptDesk$Machine" (219 : Nat) ({ cls := "ScriptDesk$Sum", name := "of", desc := "([BI)LScriptDesk$Thing;" } : Jvm.MethodName)) := ⟨List.mem_append_right _ (List.mem_of_getElem? (i := 767) rfl), rfl⟩
set_option maxRecDepth 100000 in
theorem w_768 : mp_w (Jvm.Cond.instanceMethod ({ cls := "ScriptDesk$Sum", name := "of", desc := "([BI)LScriptDesk$Thing;" } : Jvm.MethodName)) := ⟨List.mem_append_right _ (List.mem_of_getElem? (i := 768) rfl), rfl⟩
set_option maxRecDepth 100000 in
theorem w_769 : mp_w (Jvm.Cond.sameMethod "ScriptDesk$Sum" "ScriptDesk$Sum" "of" "([BI)LScriptDesk$Thing;") := ⟨List.mem_append_right _ (List.mem_of_getElem? (i := 769) rfl), rfl⟩
set_option maxRecDepth 100000 in
theorem w_770 : mp_w (Jvm.Cond.selects "ScriptDesk$Ripemd160" ({ cls := "ScriptDesk$Sum", name := "of", desc := "([BI)LScriptDesk$Thing;" } : Jvm.MethodName) ({ cls := "ScriptDesk$Sum", name := "of", desc := "([BI)LScriptDesk$Thing;" } : Jvm.MethodName)) := ⟨List.mem_append_right _ (List.mem_of_getElem? (i := 770) rfl), rfl⟩
set_option maxRecDepth 100000 in
theorem w_771 : mp_w (Jvm.Cond.selects "ScriptDesk$Sha256" ({ cls := "ScriptDesk$Sum", name := "of", desc := "([BI)LScriptDesk$Thing;" } : Jvm.MethodName) ({ cls := "ScriptDesk$Sum", name := "of", desc := "([BI)LScriptDesk$Thing;" } : Jvm.MethodName)) := ⟨List.mem_append_right _ (List.mem_of_getElem? (i := 771) rfl), rfl⟩
set_option maxRecDepth 100000 in
theorem w_772 : mp_w (Jvm.Cond.code ({ cls := "ScriptDesk$Sum", name := "of", desc := "([BI)LScriptDesk$Thing;" } : Jvm.MethodName) prog_8_method_3_code (5 : Nat) (Option.some (Jvm.ClassFile.FieldType.object "ScriptDesk$Thing"))) := ⟨List.mem_append_right _ (List.mem_of_getElem? (i := 772) rfl), rfl⟩
set_option maxRecDepth 100000 in
theorem w_773 : mp_w (Jvm.Cond.methodLink "ScriptDesk$Sum" (29 : Nat) ({ cls := "java/lang/System", name := "arraycopy", desc := "(Ljava/lang/Object;ILjava/lang/Object;II)V" } : Jvm.MethodName)) := ⟨List.mem_append_right _ (List.mem_of_getElem? (i := 773) rfl), rfl⟩
set_option maxRecDepth 100000 in
theorem w_774 : mp_w (Jvm.Cond.methodLink "ScriptDesk$Sum" (35 : Nat) ({ cls := "ScriptDesk$Sum", name := "load", desc := "([BII)V" } : Jvm.MethodName)) := ⟨List.mem_append_right _ (List.mem_of_getElem? (i := 774) rfl), rfl⟩
set_option maxRecDepth 100000 in
theorem w_776 : mp_w (Jvm.Cond.instanceMethod ({ cls := "ScriptDesk$Sum", name := "load", desc := "([BII)V" } : Jvm.MethodName)) := ⟨List.mem_append_right _ (List.mem_of_getElem? (i := 776) rfl), rfl⟩
set_option maxRecDepth 100000 in
theorem w_777 : mp_w (Jvm.Cond.code ({ cls := "ScriptDesk$Sum", name := "load", desc := "([BII)V" } : Jvm.MethodName) prog_8_method_4_code (7 : Nat) (Option.none : Option Jvm.ClassFile.FieldType)) := ⟨List.mem_append_right _ (List.mem_of_getElem? (i := 777) rfl), rfl⟩
set_option maxRecDepth 100000 in
theorem w_778 : mp_w (Jvm.Cond.methodLink "ScriptDesk$Sum" (46 : Nat) ({ cls := "ScriptDesk$Sum", name := "filled", desc := "([BII)I" } : Jvm.MethodName)) := ⟨List.mem_append_right _ (List.mem_of_getElem? (i := 778) rfl), rfl⟩
set_option maxRecDepth 100000 in
theorem w_779 : mp_w (Jvm.Cond.static ({ cls := "ScriptDesk$Sum", name := "filled", desc := "([BII)I" } : Jvm.MethodName)) := ⟨List.mem_append_right _ (List.mem_of_getElem? (i := 779) rfl), rfl⟩
set_option maxRecDepth 100000 in
theorem w_780 : mp_w (Jvm.Cond.code ({ cls := "ScriptDesk$Sum", name := "filled", desc := "([BII)I" } : Jvm.MethodName) prog_8_method_5_code (3 : Nat) (Option.some Jvm.ClassFile.FieldType.int)) := ⟨List.mem_append_right _ (List.mem_of_getElem? (i := 780) rfl), rfl⟩
set_option maxRecDepth 100000 in
theorem w_781 : mp_w (Jvm.Cond.methodLink "ScriptDesk$Sum" (50 : Nat) ({ cls := "ScriptDesk$Sum", name := "shift", desc := "(I)I" } : Jvm.MethodName)) := ⟨List.mem_append_right _ (List.mem_of_getElem? (i := 781) rfl), rfl⟩
set_option maxRecDepth 100000 in
theorem w_783 : mp_w (Jvm.Cond.instanceMethod ({ cls := "ScriptDesk$Sum", name := "shift", desc := "(I)I" } : Jvm.MethodName)) := ⟨List.mem_append_right _ (List.mem_of_getElem? (i := 783) rfl), rfl⟩
set_option maxRecDepth 100000 in
theorem w_784 : mp_w (Jvm.Cond.code ({ cls := "ScriptDesk$Sum", name := "shift", desc := "(I)I" } : Jvm.MethodName) prog_8_method_6_code (2 : Nat) (Option.some Jvm.ClassFile.FieldType.int)) := ⟨List.mem_append_right _ (List.mem_of_getElem? (i := 784) rfl), rfl⟩
set_option maxRecDepth 100000 in
theorem w_785 : mp_w (Jvm.Cond.methodLink "ScriptDesk$Sum" (39 : Nat) ({ cls := "ScriptDesk$Sum", name := "mix", desc := "()V" } : Jvm.MethodName)) := ⟨List.mem_append_right _ (List.mem_of_getElem? (i := 785) rfl), rfl⟩
set_option maxRecDepth 100000 in
theorem w_786 : mp_w (Jvm.Cond.declares ({ cls := "ScriptDesk$Sum", name := "mix", desc := "()V" } : Jvm.MethodName)) := ⟨List.mem_append_right _ (List.mem_of_getElem? (i := 786) rfl), rfl⟩
set_option maxRecDepth 100000 in
theorem w_787 : mp_w (Jvm.Cond.sameMethod "ScriptDesk$Sum" "ScriptDesk$Sum" "mix" "()V") := ⟨List.mem_append_right _ (List.mem_of_getElem? (i := 787) rfl), rfl⟩
set_option maxRecDepth 100000 in
theorem w_788 : mp_w (Jvm.Cond.selects "ScriptDesk$Ripemd160" ({ cls := "ScriptDesk$Sum", name := "mix", desc := "()V" } : Jvm.MethodName) ({ cls := "ScriptDesk$Ripemd160", name := "mix", desc := "()V" } : Jvm.MethodName)) := ⟨List.mem_append_right _ (List.mem_of_getElem? (i := 788) rfl), rfl⟩
set_option maxRecDepth 100000 in
theorem w_789 : mp_w (Jvm.Cond.instanceMethod ({ cls := "ScriptDesk$Ripemd160", name := "mix", desc := "()V" } : Jvm.MethodName)) := ⟨List.mem_append_right _ (List.mem_of_getElem? (i := 789) rfl), rfl⟩
set_option maxRecDepth 100000 in
theorem w_790 : mp_w (Jvm.Cond.code ({ cls := "ScriptDesk$Ripemd160", name := "mix", desc := "()V" } : Jvm.MethodName) prog_5_method_2_code (3 : Nat) (Option.none : Option Jvm.ClassFile.FieldType)) := ⟨List.mem_append_right _ (List.mem_of_getElem? (i := 790) rfl), rfl⟩
set_option maxRecDepth 100000 in
theorem w_791 : mp_w (Jvm.Cond.methodLink "ScriptDesk$Ripemd160" (22 : Nat) ({ cls := "java/lang/System", name := "arraycopy", desc := "(Ljava/lang/Object;ILjava/lang/Object;II)V" } : Jvm.MethodName)) := ⟨List.mem_append_right _ (List.mem_of_getElem? (i := 791) rfl), rfl⟩
set_option maxRecDepth 100000 in
theorem w_792 : mp_w (Jvm.Cond.fieldLink "ScriptDesk$Ripemd160" (31 : Nat) "ScriptDesk$Ripemd160" "LEFT_WORDS" "[I") := ⟨List.mem_append_right _ (List.mem_of_getElem? (i := 792) rfl), rfl⟩
set_option maxRecDepth 100000 in
theorem w_794 : mp_w (Jvm.Cond.fieldLink "ScriptDesk$Ripemd160" (34 : Nat) "ScriptDesk$Ripemd160" "LEFT_ADDENDS" "[I") := ⟨List.mem_append_right _ (List.mem_of_getElem? (i := 794) rfl), rfl⟩
set_option maxRecDepth 100000 in
theorem w_796 : mp_w (Jvm.Cond.fieldLink "ScriptDesk$Ripemd160" (37 : Nat) "ScriptDesk$Ripemd160" "LEFT_TURNS" "[I") := ⟨List.mem_append_right _ (List.mem_of_getElem? (i := 796) rfl), rfl⟩
set_option maxRecDepth 100000 in
theorem w_798 : mp_w (Jvm.Cond.methodLink "ScriptDesk$Ripemd160" (40 : Nat) ({ cls := "ScriptDesk$Ripemd160", name := "turn", desc := "([IIII)V" } : Jvm.MethodName)) := ⟨List.mem_append_right _ (List.mem_of_getElem? (i := 798) rfl), rfl⟩
set_option maxRecDepth 100000 in
theorem w_799 : mp_w (Jvm.Cond.static ({ cls := "ScriptDesk$Ripemd160", name := "turn", desc := "([IIII)V" } : Jvm.MethodName)) := ⟨List.mem_append_right _ (List.mem_of_getElem? (i := 799) rfl), rfl⟩
set_option maxRecDepth 100000 in
theorem w_800 : mp_w (Jvm.Cond.code ({ cls := "ScriptDesk$Ripemd160", name := "turn", desc := "([IIII)V" } : Jvm.MethodName) prog_5_method_3_code (6 : Nat) (Option.none : Option Jvm.ClassFile.FieldType)) := ⟨List.mem_append_right _ (List.mem_of_getElem? (i := 800) rfl), rfl⟩
set_option maxRecDepth 100000 in
theorem w_801 : mp_w (Jvm.Cond.methodLink "ScriptDesk$Ripemd160" (53 : Nat) ({ cls := "ScriptDesk$Ripemd160", name := "join", desc := "(IIII)I" } : Jvm.MethodName)) := ⟨List.mem_append_right _ (List.mem_of_getElem? (i := 801) rfl), rfl⟩
set_option maxRecDepth 100000 in
theorem w_802 : mp_w (Jvm.Cond.static ({ cls := "ScriptDesk$Ripemd160", name := "join", desc := "(IIII)I" } : Jvm.MethodName)) := ⟨List.mem_append_right _ (List.mem_of_getElem? (i := 802) rfl), rfl⟩
set_option maxRecDepth 100000 in
theorem w_803 : mp_w (Jvm.Cond.code ({ cls := "ScriptDesk$Ripemd160", name := "join", desc := "(IIII)I" } : Jvm.MethodName) prog_5_method_4_code (4 : Nat) (Option.some Jvm.ClassFile.FieldType.int)) := ⟨List.mem_append_right _ (List.mem_of_getElem? (i := 803) rfl), rfl⟩
set_option maxRecDepth 100000 in
theorem w_804 : mp_w (Jvm.Cond.methodLink "ScriptDesk$Ripemd160" (57 : Nat) ({ cls := "java/lang/Integer", name := "rotateLeft", desc := "(II)I" } : Jvm.MethodName)) := ⟨List.mem_append_right _ (List.mem_of_getElem? (i := 804) rfl), rfl⟩
set_option maxRecDepth 100000 in
theorem w_805 : mp_w (Jvm.Cond.static ({ cls := "java/lang/Integer", name := "rotateLeft", desc := "(II)I" } : Jvm.MethodName)) := ⟨List.mem_append_right _ (List.mem_of_getElem? (i := 805) rfl), rfl⟩
set_option maxRecDepth 100000 in
theorem w_806 : mp_w (Jvm.Cond.code ({ cls := "java/lang/Integer", name := "rotateLeft", desc := "(II)I" } : Jvm.MethodName) prog_19_method_50_code (2 : Nat) (Option.some Jvm.ClassFile.FieldType.int)) := ⟨List.mem_append_right _ (List.mem_of_getElem? (i := 806) rfl), rfl⟩
set_option maxRecDepth 100000 in
theorem w_807 : mp_w (Jvm.Cond.fieldLink "ScriptDesk$Ripemd160" (44 : Nat) "ScriptDesk$Ripemd160" "RIGHT_WORDS" "[I") := ⟨List.mem_append_right _ (List.mem_of_getElem? (i := 807) rfl), rfl⟩
set_option maxRecDepth 100000 in
theorem w_809 : mp_w (Jvm.Cond.fieldLink "ScriptDesk$Ripemd160" (47 : Nat) "ScriptDesk$Ripemd160" "RIGHT_ADDENDS" "[I") := ⟨List.mem_append_right _ (List.mem_of_getElem? (i := 809) rfl), rfl⟩
set_option maxRecDepth 100000 in
theorem w_811 : mp_w (Jvm.Cond.fieldLink "ScriptDesk$Ripemd160" (50 : Nat) "ScriptDesk$Ripemd160" "RIGHT_TURNS" "[I") := ⟨List.mem_append_right _ (List.mem_of_getElem? (i := 811) rfl), rfl⟩
set_option maxRecDepth 100000 in
theorem w_813 : mp_w (Jvm.Cond.selects "ScriptDesk$Sha256" ({ cls := "ScriptDesk$Sum", name := "mix", desc := "()V" } : Jvm.MethodName) ({ cls := "ScriptDesk$Sha256", name := "mix", desc := "()V" } : Jvm.MethodName)) := ⟨List.mem_append_right _ (List.mem_of_getElem? (i := 813) rfl), rfl⟩
set_option maxRecDepth 100000 in
theorem w_814 : mp_w (Jvm.Cond.instanceMethod ({ cls := "ScriptDesk$Sha256", name := "mix", desc := "()V" } : Jvm.MethodName)) := ⟨List.mem_append_right _ (List.mem_of_getElem? (i := 814) rfl), rfl⟩
set_option maxRecDepth 100000 in
theorem w_815 : mp_w (Jvm.Cond.code ({ cls := "ScriptDesk$Sha256", name := "mix", desc := "()V" } : Jvm.MethodName) prog_6_method_2_code (2 : Nat) (Option.none : Option Jvm.ClassFile.FieldType)) := ⟨List.mem_append_right _ (List.mem_of_getElem? (i := 815) rfl), rfl⟩
set_option maxRecDepth 100000 in
theorem w_816 : mp_w (Jvm.Cond.methodLink "ScriptDesk$Sha256" (16 : Nat) ({ cls := "ScriptDesk$Sha256", name := "stretch", desc := "()V" } : Jvm.MethodName)) := ⟨List.mem_append_right _ (List.mem_of_getElem? (i := 816) rfl), rfl⟩
set_option maxRecDepth 100000 in
theorem w_818 : mp_w (Jvm.Cond.instanceMethod ({ cls := "ScriptDesk$Sha256", name := "stretch", desc := "()V" } : Jvm.MethodName)) := ⟨List.mem_append_right _ (List.mem_of_getElem? (i := 818) rfl), rfl⟩
set_option maxRecDepth 100000 in
theorem w_819 : mp_w (Jvm.Cond.code ({ cls := "ScriptDesk$Sha256", name := "stretch", desc := "()V" } : Jvm.MethodName) prog_6_method_3_code (6 : Nat) (Option.none : Option Jvm.ClassFile.FieldType)) := ⟨List.mem_append_right _ (List.mem_of_getElem? (i := 819) rfl), rfl⟩
set_option maxRecDepth 100000 in
theorem w_820 : mp_w (Jvm.Cond.methodLink "ScriptDesk$Sha256" (39 : Nat) ({ cls := "java/lang/Integer", name := "rotateRight", desc := "(II)I" } : Jvm.MethodName)) := ⟨List.mem_append_right _ (List.mem_of_getElem? (i := 820) rfl), rfl⟩
set_option maxRecDepth 100000 in
theorem w_821 : mp_w (Jvm.Cond.static ({ cls := "java/lang/Integer", name := "rotateRight", desc := "(II)I" } : Jvm.MethodName)) := ⟨List.mem_append_right _ (List.mem_of_getElem? (i := 821) rfl), rfl⟩
set_option maxRecDepth 100000 in
theorem w_822 : mp_w (Jvm.Cond.code ({ cls := "java/lang/Integer", name := "rotateRight", desc := "(II)I" } : Jvm.MethodName) prog_19_method_51_code (2 : Nat) (Option.some Jvm.ClassFile.FieldType.int)) := ⟨List.mem_append_right _ (List.mem_of_getElem? (i := 822) rfl), rfl⟩
set_option maxRecDepth 100000 in
theorem w_823 : mp_w (Jvm.Cond.methodLink "ScriptDesk$Sha256" (23 : Nat) ({ cls := "java/lang/System", name := "arraycopy", desc := "(Ljava/lang/Object;ILjava/lang/Object;II)V" } : Jvm.MethodName)) := ⟨List.mem_append_right _ (List.mem_of_getElem? (i := 823) rfl), rfl⟩
set_option maxRecDepth 100000 in
theorem w_824 : mp_w (Jvm.Cond.fieldLink "ScriptDesk$Sha256" (29 : Nat) "ScriptDesk$Sha256" "ADDENDS" "[I") := ⟨List.mem_append_right _ (List.mem_of_getElem? (i := 824) rfl), rfl⟩
set_option maxRecDepth 100000 in
theorem w_826 : mp_w (Jvm.Cond.methodLink "ScriptDesk$Sha256" (35 : Nat) ({ cls := "ScriptDesk$Sha256", name := "turn", desc := "(I)V" } : Jvm.MethodName)) := ⟨List.mem_append_right _ (List.mem_of_getElem? (i := 826) rfl), rfl⟩
set_option maxRecDepth 100000 in
theorem w_828 : mp_w (Jvm.Cond.instanceMethod ({ cls := "ScriptDesk$Sha256", name := "turn", desc := "(I)V" } : Jvm.MethodName)) := ⟨List.mem_append_right _ (List.mem_of_getElem? (i := 828) rfl), rfl⟩
set_option maxRecDepth 100000 in
theorem w_829 : mp_w (Jvm.Cond.code ({ cls := "ScriptDesk$Sha256", name := "turn", desc := "(I)V" } : Jvm.MethodName) prog_6_method_4_code (10 : Nat) (Option.none : Option Jvm.ClassFile.FieldType)) := ⟨List.mem_append_right _ (List.mem_of_getElem? (i := 829) rfl), rfl⟩
set_option maxRecDepth 100000 in
theorem w_830 : mp_w (Jvm.Cond.methodLink "ScriptDesk$Sum" (42 : Nat) ({ cls := "ScriptDesk$Sum", name := "result", desc := "()LScriptDesk$Thing;" } : Jvm.MethodName)) := ⟨List.mem_append_right _ (List.mem_of_getElem? (i := 830) rfl), rfl⟩
set_option maxRecDepth 100000 in
theorem w_832 : mp_w (Jvm.Cond.instanceMethod ({ cls := "ScriptDesk$Sum", name := "result", desc := "()LScriptDesk$Thing;" } : Jvm.MethodName)) := ⟨List.mem_append_right _ (List.mem_of_getElem? (i := 832) rfl), rfl⟩
set_option maxRecDepth 100000 in
theorem w_833 : mp_w (Jvm.Cond.code ({ cls := "ScriptDesk$Sum", name := "result", desc := "()LScriptDesk$Thing;" } : Jvm.MethodName) prog_8_method_7_code (3 : Nat) (Option.some (Jvm.ClassFile.FieldType.object "ScriptDesk$Thing"))) := ⟨List.mem_append_right _ (List.mem_of_getElem? (i := 833) rfl), rfl⟩
set_option maxRecDepth 100000 in
theorem w_834 : mp_w (Jvm.Cond.classLink "ScriptDesk$Sum" (54 : Nat) "ScriptDesk$Thing") := ⟨List.mem_append_right _ (List.mem_of_getElem? (i := 834) rfl), rfl⟩
set_option maxRecDepth 100000 in
theorem w_835 : mp_w (Jvm.Cond.methodLink "ScriptDesk$Sum" (56 : Nat) ({ cls := "ScriptDesk$Thing", name := "<init>", desc := "([B)V" } : Jvm.MethodName)) := ⟨List.mem_append_right _ (List.mem_of_getElem? (i := 835) rfl), rfl⟩
set_option maxRecDepth 100000 in
theorem w_836 : mp_w (Jvm.Cond.methodLink "ScriptDesk$Machine" (150 : Nat) ({ cls := "ScriptDesk$Machine", name := "checkSignatures", desc := "(I)Z" } : Jvm.MethodName)) := ⟨List.mem_append_right _ (List.mem_of_getElem? (i := 836) rfl), rfl⟩
set_option maxRecDepth 100000 in
theorem w_838 : mp_w (Jvm.Cond.instanceMethod ({ cls := "ScriptDesk$Machine", name := "checkSignatures", desc := "(I)Z" } : Jvm.MethodName)) := ⟨List.mem_append_right _ (List.mem_of_getElem? (i := 838) rfl), rfl⟩
set_option maxRecDepth 100000 in
theorem w_839 : mp_w (Jvm.Cond.code ({ cls := "ScriptDesk$Machine", name := "checkSignatures", desc := "(I)Z" } : Jvm.MethodName) prog_4_method_21_code (2 : Nat) (Option.some Jvm.ClassFile.FieldType.boolean)) := ⟨List.mem_append_right _ (List.mem_of_getElem? (i := 839) rfl), rfl⟩
set_option maxRecDepth 100000 in
theorem w_840 : mp_w (Jvm.Cond.methodLink "ScriptDesk$Machine" (225 : Nat) ({ cls := "ScriptDesk$Machine", name := "checkMany", desc := "(Z)Z" } : Jvm.MethodName)) := ⟨List.mem_append_right _ (List.mem_of_getElem? (i := 840) rfl), rfl⟩
set_option maxRecDepth 100000 in
theorem w_842 : mp_w (Jvm.Cond.instanceMethod ({ cls := "ScriptDesk$Machine", name := "checkMany", desc := "(Z)Z" } : Jvm.MethodName)) := ⟨List.mem_append_right _ (List.mem_of_getElem? (i := 842) rfl), rfl⟩
set_option maxRecDepth 100000 in
theorem w_843 : mp_w (Jvm.Cond.code ({ cls := "ScriptDesk$Machine", name := "checkMany", desc := "(Z)Z" } : Jvm.MethodName) prog_4_method_22_code (5 : Nat) (Option.some Jvm.ClassFile.FieldType.boolean)) := ⟨List.mem_append_right _ (List.mem_of_getElem? (i := 843) rfl), rfl⟩
set_option maxRecDepth 100000 in
theorem w_844 : mp_w (Jvm.Cond.methodLink "ScriptDesk" (67 : Nat) ({ cls := "ScriptDesk$Machine", name := "handOver", desc := "(LScriptDesk$Stack;)LScriptDesk$Stack;" } : Jvm.MethodName)) := ⟨List.mem_append_right _ (List.mem_of_getElem? (i := 844) rfl), rfl⟩
set_option maxRecDepth 100000 in
theorem w_845 : mp_w (Jvm.Cond.instanceMethod ({ cls := "ScriptDesk$Machine", name := "handOver", desc := "(LScriptDesk$Stack;)LScriptDesk$Stack;" } : Jvm.MethodName)) := ⟨List.mem_append_right _ (List.mem_of_getElem? (i := 845) rfl), rfl⟩
set_option maxRecDepth 100000 in
theorem w_846 : mp_w (Jvm.Cond.selects "ScriptDesk$Machine" ({ cls := "ScriptDesk$Machine", name := "handOver", desc := "(LScriptDesk$Stack;)LScriptDesk$Stack;" } : Jvm.MethodName) ({ cls := "ScriptDesk$Machine", name := "handOver", desc := "(LScriptDesk$Stack;)LScriptDesk$Stack;" } : Jvm.MethodName)) := ⟨List.mem_append_right _ (List.mem_of_getElem? (i := 846) rfl), rfl⟩
set_option maxRecDepth 100000 in
theorem w_847 : mp_w (Jvm.Cond.code ({ cls := "ScriptDesk$Machine", name := "handOver", desc := "(LScriptDesk$Stack;)LScriptDesk$Stack;" } : Jvm.MethodName) prog_4_method_3_code (3 : Nat) (Option.some (Jvm.ClassFile.FieldType.object "ScriptDesk$Stack"))) := ⟨List.mem_append_right _ (List.mem_of_getElem? (i := 847) rfl), rfl⟩
set_option maxRecDepth 100000 in
theorem w_848 : mp_w (Jvm.Cond.methodLink "ScriptDesk" (71 : Nat) ({ cls := "ScriptDesk$Stack", name := "peek", desc := "(I)LScriptDesk$Thing;" } : Jvm.MethodName)) := ⟨List.mem_append_right _ (List.mem_of_getElem? (i := 848) rfl), rfl⟩
set_option maxRecDepth 100000 in
theorem w_849 : mp_w (Jvm.Cond.methodLink "ScriptDesk" (75 : Nat) ({ cls := "ScriptDesk$Thing", name := "isTrue", desc := "()Z" } : Jvm.MethodName)) := ⟨List.mem_append_right _ (List.mem_of_getElem? (i := 849) rfl), rfl⟩
set_option maxRecDepth 100000 in
theorem w_850 : mp_w (Jvm.Cond.methodLink "ScriptDeskLaw" (69 : Nat) ({ cls := "ScriptDeskLaw", name := "size", desc := "(LScriptDesk;I[J)I" } : Jvm.MethodName)) := ⟨List.mem_append_right _ (List.mem_of_getElem? (i := 850) rfl), rfl⟩
set_option maxRecDepth 100000 in
theorem w_851 : mp_w (Jvm.Cond.static ({ cls := "ScriptDeskLaw", name := "size", desc := "(LScriptDesk;I[J)I" } : Jvm.MethodName)) := ⟨List.mem_append_right _ (List.mem_of_getElem? (i := 851) rfl), rfl⟩
set_option maxRecDepth 100000 in
theorem w_852 : mp_w (Jvm.Cond.codeWith ({ cls := "ScriptDeskLaw", name := "size", desc := "(LScriptDesk;I[J)I" } : Jvm.MethodName) method_6_code (4 : Nat) (Option.some Jvm.ClassFile.FieldType.int) [((0 : Nat), (9 : Nat), (12 : Nat), (27 : Nat))]) := ⟨List.mem_append_right _ (List.mem_of_getElem? (i := 852) rfl), rfl⟩
set_option maxRecDepth 100000 in
theorem w_853 : mp_w (Jvm.Cond.classLink "ScriptDeskLaw" (27 : Nat) "java/lang/IndexOutOfBoundsException") := ⟨List.mem_append_right _ (List.mem_of_getElem? (i := 853) rfl), rfl⟩
set_option maxRecDepth 100000 in
theorem w_854 : mp_w (Jvm.Cond.methodLink "ScriptDeskLaw" (24 : Nat) ({ cls := "ScriptDesk", name := "size", desc := "(I)I" } : Jvm.MethodName)) := ⟨List.mem_append_right _ (List.mem_of_getElem? (i := 854) rfl), rfl⟩
set_option maxRecDepth 100000 in
theorem w_855 : mp_w (Jvm.Cond.instanceMethod ({ cls := "ScriptDesk", name := "size", desc := "(I)I" } : Jvm.MethodName)) := ⟨List.mem_append_right _ (List.mem_of_getElem? (i := 855) rfl), rfl⟩
set_option maxRecDepth 100000 in
theorem w_856 : mp_w (Jvm.Cond.selects "ScriptDesk" ({ cls := "ScriptDesk", name := "size", desc := "(I)I" } : Jvm.MethodName) ({ cls := "ScriptDesk", name := "size", desc := "(I)I" } : Jvm.MethodName)) := ⟨List.mem_append_right _ (List.mem_of_getElem? (i := 856) rfl), rfl⟩
set_option maxRecDepth 100000 in
theorem w_857 : mp_w (Jvm.Cond.code ({ cls := "ScriptDesk", name := "size", desc := "(I)I" } : Jvm.MethodName) prog_1_method_6_code (2 : Nat) (Option.some Jvm.ClassFile.FieldType.int)) := ⟨List.mem_append_right _ (List.mem_of_getElem? (i := 857) rfl), rfl⟩
set_option maxRecDepth 100000 in
theorem w_858 : mp_w (Jvm.Cond.methodLink "ScriptDesk" (85 : Nat) ({ cls := "ScriptDesk$Stack", name := "holds", desc := "(I)Z" } : Jvm.MethodName)) := ⟨List.mem_append_right _ (List.mem_of_getElem? (i := 858) rfl), rfl⟩
set_option maxRecDepth 100000 in
theorem w_859 : mp_w (Jvm.Cond.classLink "ScriptDesk" (88 : Nat) "java/lang/IndexOutOfBoundsException") := ⟨List.mem_append_right _ (List.mem_of_getElem? (i := 859) rfl), rfl⟩
set_option maxRecDepth 100000 in
theorem w_860 : mp_w (Jvm.Cond.instantiable "java/lang/IndexOutOfBoundsException" (6 : Nat)) := ⟨List.mem_append_right _ (List.mem_of_getElem? (i := 860) rfl), rfl⟩
set_option maxRecDepth 100000 in
theorem w_861 : mp_w (Jvm.Cond.castable "java/lang/IndexOutOfBoundsException" "java/lang/IndexOutOfBoundsException") := ⟨List.mem_append_right _ (List.mem_of_getElem? (i := 861) rfl), rfl⟩
set_option maxRecDepth 100000 in
theorem w_862 : mp_w (Jvm.Cond.selects "java/lang/IndexOutOfBoundsException" ({ cls := "java/lang/Throwable", name := "fillInStackTrace", desc := "(I)Ljava/lang/Throwable;" } : Jvm.MethodName) ({ cls := "java/lang/Throwable", name := "fillInStackTrace", desc := "(I)Ljava/lang/Throwable;" } : Jvm.MethodName)) := ⟨List.mem_append_right _ (List.mem_of_getElem? (i := 862) rfl), rfl⟩
set_option maxRecDepth 100000 in
theorem w_863 : mp_w (Jvm.Cond.lays "java/lang/IndexOutOfBoundsException" "java/lang/Throwable" "cause" "Ljava/lang/Throwable;") := ⟨List.mem_append_right _ (List.mem_of_getElem? (i := 863) rfl), rfl⟩
set_option maxRecDepth 100000 in
theorem w_864 : mp_w (Jvm.Cond.lays "java/lang/IndexOutOfBoundsException" "java/lang/Throwable" "stackTrace" "[Ljava/lang/StackTraceElement;") := ⟨List.mem_append_right _ (List.mem_of_getElem? (i := 864) rfl), rfl⟩
set_option maxRecDepth 100000 in
theorem w_865 : mp_w (Jvm.Cond.lays "java/lang/IndexOutOfBoundsException" "java/lang/Throwable" "suppressedExceptions" "Ljava/util/List;") := ⟨List.mem_append_right _ (List.mem_of_getElem? (i := 865) rfl), rfl⟩
set_option maxRecDepth 100000 in
theorem w_866 : mp_w (Jvm.Cond.lays "java/lang/IndexOutOfBoundsException" "java/lang/Throwable" "detailMessage" "Ljava/lang/String;") := ⟨List.mem_append_right _ (List.mem_of_getElem? (i := 866) rfl), rfl⟩
set_option maxRecDepth 100000 in
theorem w_867 : mp_w (Jvm.Cond.lays "java/lang/IndexOutOfBoundsException" "java/lang/Throwable" "backtrace" "Ljava/lang/Object;") := ⟨List.mem_append_right _ (List.mem_of_getElem? (i := 867) rfl), rfl⟩
set_option maxRecDepth 100000 in
theorem w_868 : mp_w (Jvm.Cond.methodLink "ScriptDesk" (90 : Nat) ({ cls := "java/lang/IndexOutOfBoundsException", name := "<init>", desc := "()V" } : Jvm.MethodName)) := ⟨List.mem_append_right _ (List.mem_of_getElem? (i := 868) rfl), rfl⟩
set_option maxRecDepth 100000 in
theorem w_869 : mp_w (Jvm.Cond.instanceMethod ({ cls := "java/lang/IndexOutOfBoundsException", name := "<init>", desc := "()V" } : Jvm.MethodName)) := ⟨List.mem_append_right _ (List.mem_of_getElem? (i := 869) rfl), rfl⟩
set_option maxRecDepth 100000 in
theorem w_870 : mp_w (Jvm.Cond.code ({ cls := "java/lang/IndexOutOfBoundsException", name := "<init>", desc := "()V" } : Jvm.MethodName) prog_18_method_1_code (1 : Nat) (Option.none : Option Jvm.ClassFile.FieldType)) := ⟨List.mem_append_right _ (List.mem_of_getElem? (i := 870) rfl), rfl⟩
set_option maxRecDepth 100000 in
theorem w_871 : mp_w (Jvm.Cond.methodLink "java/lang/IndexOutOfBoundsException" (1 : Nat) ({ cls := "java/lang/RuntimeException", name := "<init>", desc := "()V" } : Jvm.MethodName)) := ⟨List.mem_append_right _ (List.mem_of_getElem? (i := 871) rfl), rfl⟩
set_option maxRecDepth 100000 in
theorem w_872 : mp_w (Jvm.Cond.lays "java/lang/IndexOutOfBoundsException" "java/lang/Throwable" "depth" "I") := ⟨List.mem_append_right _ (List.mem_of_getElem? (i := 872) rfl), rfl⟩
set_option maxRecDepth 100000 in
theorem w_873 : mp_w (Jvm.Cond.superclass "java/lang/IndexOutOfBoundsException" "java/lang/RuntimeException") := ⟨List.mem_append_right _ (List.mem_of_getElem? (i := 873) rfl), rfl⟩
set_option maxRecDepth 100000 in
theorem w_874 : mp_w (Jvm.Cond.methodLink "ScriptDesk" (91 : Nat) ({ cls := "ScriptDesk$Thing", name := "length", desc := "()I" } : Jvm.MethodName)) := ⟨List.mem_append_right _ (List.mem_of_getElem? (i := 874) rfl), rfl⟩
set_option maxRecDepth 100000 in
theorem w_875 : mp_w (Jvm.Cond.methodLink "ScriptDeskLaw" (72 : Nat) ({ cls := "ScriptDeskLaw", name := "at", desc := "(LScriptDesk;II[J)I" } : Jvm.MethodName)) := ⟨List.mem_append_right _ (List.mem_of_getElem? (i := 875) rfl), rfl⟩
