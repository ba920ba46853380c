set_option maxRecDepth 100000 in
theorem w_292 : mp_w (Jvm.Cond.instanceMethod ({ cls := "ScriptDesk", name := "append", desc := "(I)V" } : Jvm.MethodName)) := ⟨List.mem_append_right _ (List.mem_of_getElem? (i := 292) rfl), rfl⟩
set_option maxRecDepth 100000 in
theorem w_293 : mp_w (Jvm.Cond.code ({ cls := "ScriptDesk", name := "append", desc := "(I)V" } : Jvm.MethodName) prog_1_method_12_code (3 : Nat) (Option.none : Option Jvm.ClassFile.FieldType)) := ⟨List.mem_append_right _ (List.mem_of_getElem? (i := 293) rfl), rfl⟩
set_option maxRecDepth 100000 in
theorem w_294 : mp_w (Jvm.Cond.methodLink "ScriptDeskLaw" (58 : Nat) ({ cls := "ScriptDeskLaw", name := "end", desc := "(LScriptDesk;I[J)I" } : Jvm.MethodName)) := ⟨List.mem_append_right _ (List.mem_of_getElem? (i := 294) rfl), rfl⟩
set_option maxRecDepth 100000 in
theorem w_295 : mp_w (Jvm.Cond.static ({ cls := "ScriptDeskLaw", name := "end", desc := "(LScriptDesk;I[J)I" } : Jvm.MethodName)) := ⟨List.mem_append_right _ (List.mem_of_getElem? (i := 295) rfl), rfl⟩
set_option maxRecDepth 100000 in
theorem w_296 : mp_w (Jvm.Cond.codeWith ({ cls := "ScriptDeskLaw", name := "end", desc := "(LScriptDesk;I[J)I" } : Jvm.MethodName) method_4_code (4 : Nat) (Option.some Jvm.ClassFile.FieldType.int) [((0 : Nat), (9 : Nat), (12 : Nat), (19 : Nat))]) := ⟨List.mem_append_right _ (List.mem_of_getElem? (i := 296) rfl), rfl⟩
set_option maxRecDepth 100000 in
theorem w_297 : mp_w (Jvm.Cond.classLink "ScriptDeskLaw" (19 : Nat) "java/lang/IllegalArgumentException") := ⟨List.mem_append_right _ (List.mem_of_getElem? (i := 297) rfl), rfl⟩
set_option maxRecDepth 100000 in
theorem w_298 : mp_w (Jvm.Cond.methodLink "ScriptDeskLaw" (15 : Nat) ({ cls := "ScriptDesk", name := "end", desc := "(I)I" } : Jvm.MethodName)) := ⟨List.mem_append_right _ (List.mem_of_getElem? (i := 298) rfl), rfl⟩
set_option maxRecDepth 100000 in
theorem w_299 : mp_w (Jvm.Cond.instanceMethod ({ cls := "ScriptDesk", name := "end", desc := "(I)I" } : Jvm.MethodName)) := ⟨List.mem_append_right _ (List.mem_of_getElem? (i := 299) rfl), rfl⟩
set_option maxRecDepth 100000 in
theorem w_300 : mp_w (Jvm.Cond.selects "ScriptDesk" ({ cls := "ScriptDesk", name := "end", desc := "(I)I" } : Jvm.MethodName) ({ cls := "ScriptDesk", name := "end", desc := "(I)I" } : Jvm.MethodName)) := ⟨List.mem_append_right _ (List.mem_of_getElem? (i := 300) rfl), rfl⟩
set_option maxRecDepth 100000 in
theorem w_301 : mp_w (Jvm.Cond.code ({ cls := "ScriptDesk", name := "end", desc := "(I)I" } : Jvm.MethodName) prog_1_method_3_code (2 : Nat) (Option.some Jvm.ClassFile.FieldType.int)) := ⟨List.mem_append_right _ (List.mem_of_getElem? (i := 301) rfl), rfl⟩
set_option maxRecDepth 100000 in
theorem w_302 : mp_w (Jvm.Cond.methodLink "ScriptDesk" (53 : Nat) ({ cls := "ScriptDesk", name := "rowHas", desc := "(I)Z" } : Jvm.MethodName)) := ⟨List.mem_append_right _ (List.mem_of_getElem? (i := 302) rfl), rfl⟩
set_option maxRecDepth 100000 in
theorem w_304 : mp_w (Jvm.Cond.instanceMethod ({ cls := "ScriptDesk", name := "rowHas", desc := "(I)Z" } : Jvm.MethodName)) := ⟨List.mem_append_right _ (List.mem_of_getElem? (i := 304) rfl), rfl⟩
set_option maxRecDepth 100000 in
theorem w_305 : mp_w (Jvm.Cond.code ({ cls := "ScriptDesk", name := "rowHas", desc := "(I)Z" } : Jvm.MethodName) prog_1_method_11_code (2 : Nat) (Option.some Jvm.ClassFile.FieldType.boolean)) := ⟨List.mem_append_right _ (List.mem_of_getElem? (i := 305) rfl), rfl⟩
set_option maxRecDepth 100000 in
theorem w_306 : mp_w (Jvm.Cond.classLink "ScriptDesk" (57 : Nat) "java/lang/IllegalArgumentException") := ⟨List.mem_append_right _ (List.mem_of_getElem? (i := 306) rfl), rfl⟩
set_option maxRecDepth 100000 in
theorem w_307 : mp_w (Jvm.Cond.instantiable "java/lang/IllegalArgumentException" (6 : Nat)) := ⟨List.mem_append_right _ (List.mem_of_getElem? (i := 307) rfl), rfl⟩
set_option maxRecDepth 100000 in
theorem w_308 : mp_w (Jvm.Cond.castable "java/lang/IllegalArgumentException" "java/lang/IllegalArgumentException") := ⟨List.mem_append_right _ (List.mem_of_getElem? (i := 308) rfl), rfl⟩
set_option maxRecDepth 100000 in
theorem w_309 : mp_w (Jvm.Cond.selects "java/lang/IllegalArgumentException" ({ cls := "java/lang/Throwable", name := "fillInStackTrace", desc := "(I)Ljava/lang/Throwable;" } : Jvm.MethodName) ({ cls := "java/lang/Throwable", name := "fillInStackTrace", desc := "(I)Ljava/lang/Throwable;" } : Jvm.MethodName)) := ⟨List.mem_append_right _ (List.mem_of_getElem? (i := 309) rfl), rfl⟩
set_option maxRecDepth 100000 in
theorem w_310 : mp_w (Jvm.Cond.lays "java/lang/IllegalArgumentException" "java/lang/Throwable" "cause" "Ljava/lang/Throwable;") := ⟨List.mem_append_right _ (List.mem_of_getElem? (i := 310) rfl), rfl⟩
set_option maxRecDepth 100000 in
theorem w_311 : mp_w (Jvm.Cond.lays "java/lang/IllegalArgumentException" "java/lang/Throwable" "stackTrace" "[Ljava/lang/StackTraceElement;") := ⟨List.mem_append_right _ (List.mem_of_getElem? (i := 311) rfl), rfl⟩
set_option maxRecDepth 100000 in
theorem w_312 : mp_w (Jvm.Cond.lays "java/lang/IllegalArgumentException" "java/lang/Throwable" "suppressedExceptions" "Ljava/util/List;") := ⟨List.mem_append_right _ (List.mem_of_getElem? (i := 312) rfl), rfl⟩
set_option maxRecDepth 100000 in
theorem w_313 : mp_w (Jvm.Cond.lays "java/lang/IllegalArgumentException" "java/lang/Throwable" "detailMessage" "Ljava/lang/String;") := ⟨List.mem_append_right _ (List.mem_of_getElem? (i := 313) rfl), rfl⟩
set_option maxRecDepth 100000 in
theorem w_314 : mp_w (Jvm.Cond.lays "java/lang/IllegalArgumentException" "java/lang/Throwable" "backtrace" "Ljava/lang/Object;") := ⟨List.mem_append_right _ (List.mem_of_getElem? (i := 314) rfl), rfl⟩
set_option maxRecDepth 100000 in
theorem w_315 : mp_w (Jvm.Cond.methodLink "ScriptDesk" (59 : Nat) ({ cls := "java/lang/IllegalArgumentException", name := "<init>", desc := "()V" } : Jvm.MethodName)) := ⟨List.mem_append_right _ (List.mem_of_getElem? (i := 315) rfl), rfl⟩
set_option maxRecDepth 100000 in
theorem w_316 : mp_w (Jvm.Cond.instanceMethod ({ cls := "java/lang/IllegalArgumentException", name := "<init>", desc := "()V" } : Jvm.MethodName)) := ⟨List.mem_append_right _ (List.mem_of_getElem? (i := 316) rfl), rfl⟩
set_option maxRecDepth 100000 in
theorem w_317 : mp_w (Jvm.Cond.code ({ cls := "java/lang/IllegalArgumentException", name := "<init>", desc := "()V" } : Jvm.MethodName) prog_16_method_1_code (1 : Nat) (Option.none : Option Jvm.ClassFile.FieldType)) := ⟨List.mem_append_right _ (List.mem_of_getElem? (i := 317) rfl), rfl⟩
set_option maxRecDepth 100000 in
theorem w_318 : mp_w (Jvm.Cond.methodLink "java/lang/IllegalArgumentException" (1 : Nat) ({ cls := "java/lang/RuntimeException", name := "<init>", desc := "()V" } : Jvm.MethodName)) := ⟨List.mem_append_right _ (List.mem_of_getElem? (i := 318) rfl), rfl⟩
set_option maxRecDepth 100000 in
theorem w_319 : mp_w (Jvm.Cond.lays "java/lang/IllegalArgumentException" "java/lang/Throwable" "depth" "I") := ⟨List.mem_append_right _ (List.mem_of_getElem? (i := 319) rfl), rfl⟩
set_option maxRecDepth 100000 in
theorem w_320 : mp_w (Jvm.Cond.superclass "java/lang/IllegalArgumentException" "java/lang/RuntimeException") := ⟨List.mem_append_right _ (List.mem_of_getElem? (i := 320) rfl), rfl⟩
set_option maxRecDepth 100000 in
theorem w_321 : mp_w (Jvm.Cond.methodLink "ScriptDeskLaw" (62 : Nat) ({ cls := "ScriptDeskLaw", name := "run", desc := "(LScriptDesk;I[J)I" } : Jvm.MethodName)) := ⟨List.mem_append_right _ (List.mem_of_getElem? (i := 321) rfl), rfl⟩
set_option maxRecDepth 100000 in
theorem w_322 : mp_w (Jvm.Cond.static ({ cls := "ScriptDeskLaw", name := "run", desc := "(LScriptDesk;I[J)I" } : Jvm.MethodName)) := ⟨List.mem_append_right _ (List.mem_of_getElem? (i := 322) rfl), rfl⟩
set_option maxRecDepth 100000 in
theorem w_323 : mp_w (Jvm.Cond.codeWith ({ cls := "ScriptDeskLaw", name := "run", desc := "(LScriptDesk;I[J)I" } : Jvm.MethodName) method_5_code (4 : Nat) (Option.some Jvm.ClassFile.FieldType.int) [((0 : Nat), (9 : Nat), (12 : Nat), (19 : Nat))]) := ⟨List.mem_append_right _ (List.mem_of_getElem? (i := 323) rfl), rfl⟩
set_option maxRecDepth 100000 in
theorem w_324 : mp_w (Jvm.Cond.methodLink "ScriptDeskLaw" (21 : Nat) ({ cls := "ScriptDesk", name := "run", desc := "(I)I" } : Jvm.MethodName)) := ⟨List.mem_append_right _ (List.mem_of_getElem? (i := 324) rfl), rfl⟩
set_option maxRecDepth 100000 in
theorem w_325 : mp_w (Jvm.Cond.instanceMethod ({ cls := "ScriptDesk", name := "run", desc := "(I)I" } : Jvm.MethodName)) := ⟨List.mem_append_right _ (List.mem_of_getElem? (i := 325) rfl), rfl⟩
set_option maxRecDepth 100000 in
theorem w_326 : mp_w (Jvm.Cond.selects "ScriptDesk" ({ cls := "ScriptDesk", name := "run", desc := "(I)I" } : Jvm.MethodName) ({ cls := "ScriptDesk", name := "run", desc := "(I)I" } : Jvm.MethodName)) := ⟨List.mem_append_right _ (List.mem_of_getElem? (i := 326) rfl), rfl⟩
set_option maxRecDepth 100000 in
theorem w_327 : mp_w (Jvm.Cond.code ({ cls := "ScriptDesk", name := "run", desc := "(I)I" } : Jvm.MethodName) prog_1_method_4_code (3 : Nat) (Option.some Jvm.ClassFile.FieldType.int)) := ⟨List.mem_append_right _ (List.mem_of_getElem? (i := 327) rfl), rfl⟩
set_option maxRecDepth 100000 in
theorem w_328 : mp_w (Jvm.Cond.methodLink "ScriptDesk" (60 : Nat) ({ cls := "ScriptDesk$Machine", name := "clear", desc := "()V" } : Jvm.MethodName)) := ⟨List.mem_append_right _ (List.mem_of_getElem? (i := 328) rfl), rfl⟩
set_option maxRecDepth 100000 in
theorem w_329 : mp_w (Jvm.Cond.instanceMethod ({ cls := "ScriptDesk$Machine", name := "clear", desc := "()V" } : Jvm.MethodName)) := ⟨List.mem_append_right _ (List.mem_of_getElem? (i := 329) rfl), rfl⟩
set_option maxRecDepth 100000 in
theorem w_330 : mp_w (Jvm.Cond.selects "ScriptDesk$Machine" ({ cls := "ScriptDesk$Machine", name := "clear", desc := "()V" } : Jvm.MethodName) ({ cls := "ScriptDesk$Machine", name := "clear", desc := "()V" } : Jvm.MethodName)) := ⟨List.mem_append_right _ (List.mem_of_getElem? (i := 330) rfl), rfl⟩
set_option maxRecDepth 100000 in
theorem w_331 : mp_w (Jvm.Cond.code ({ cls := "ScriptDesk$Machine", name := "clear", desc := "()V" } : Jvm.MethodName) prog_4_method_2_code (1 : Nat) (Option.none : Option Jvm.ClassFile.FieldType)) := ⟨List.mem_append_right _ (List.mem_of_getElem? (i := 331) rfl), rfl⟩
set_option maxRecDepth 100000 in
theorem w_332 : mp_w (Jvm.Cond.methodLink "ScriptDesk$Machine" (50 : Nat) ({ cls := "ScriptDesk$Stack", name := "clear", desc := "()V" } : Jvm.MethodName)) := ⟨List.mem_append_right _ (List.mem_of_getElem? (i := 332) rfl), rfl⟩
set_option maxRecDepth 100000 in
theorem w_333 : mp_w (Jvm.Cond.instanceMethod ({ cls := "ScriptDesk$Stack", name := "clear", desc := "()V" } : Jvm.MethodName)) := ⟨List.mem_append_right _ (List.mem_of_getElem? (i := 333) rfl), rfl⟩
set_option maxRecDepth 100000 in
theorem w_334 : mp_w (Jvm.Cond.selects "ScriptDesk$Stack" ({ cls := "ScriptDesk$Stack", name := "clear", desc := "()V" } : Jvm.MethodName) ({ cls := "ScriptDesk$Stack", name := "clear", desc := "()V" } : Jvm.MethodName)) := ⟨List.mem_append_right _ (List.mem_of_getElem? (i := 334) rfl), rfl⟩
set_option maxRecDepth 100000 in
theorem w_335 : mp_w (Jvm.Cond.code ({ cls := "ScriptDesk$Stack", name := "clear", desc := "()V" } : Jvm.MethodName) prog_7_method_2_code (1 : Nat) (Option.none : Option Jvm.ClassFile.FieldType)) := ⟨List.mem_append_right _ (List.mem_of_getElem? (i := 335) rfl), rfl⟩
set_option maxRecDepth 100000 in
theorem w_336 : mp_w (Jvm.Cond.methodLink "ScriptDesk" (63 : Nat) ({ cls := "ScriptDesk$Machine", name := "play", desc := "([BII)Z" } : Jvm.MethodName)) := ⟨List.mem_append_right _ (List.mem_of_getElem? (i := 336) rfl), rfl⟩
set_option maxRecDepth 100000 in
theorem w_337 : mp_w (Jvm.Cond.instanceMethod ({ cls := "ScriptDesk$Machine", name := "play", desc := "([BII)Z" } : Jvm.MethodName)) := ⟨List.mem_append_right _ (List.mem_of_getElem? (i := 337) rfl), rfl⟩
set_option maxRecDepth 100000 in
theorem w_338 : mp_w (Jvm.Cond.selects "ScriptDesk$Machine" ({ cls := "ScriptDesk$Machine", name := "play", desc := "([BII)Z" } : Jvm.MethodName) ({ cls := "ScriptDesk$Machine", name := "play", desc := "([BII)Z" } : Jvm.MethodName)) := ⟨List.mem_append_right _ (List.mem_of_getElem? (i := 338) rfl), rfl⟩
set_option maxRecDepth 100000 in
theorem w_339 : mp_w (Jvm.Cond.code ({ cls := "ScriptDesk$Machine", name := "play", desc := "([BII)Z" } : Jvm.MethodName) prog_4_method_4_code (8 : Nat) (Option.some Jvm.ClassFile.FieldType.boolean)) := ⟨List.mem_append_right _ (List.mem_of_getElem? (i := 339) rfl), rfl⟩
set_option maxRecDepth 100000 in
theorem w_340 : mp_w (Jvm.Cond.methodLink "ScriptDesk$Machine" (53 : Nat) ({ cls := "ScriptDesk$Branches", name := "clear", desc := "()V" } : Jvm.MethodName)) := ⟨List.mem_append_right _ (List.mem_of_getElem? (i := 340) rfl), rfl⟩
set_option maxRecDepth 100000 in
theorem w_341 : mp_w (Jvm.Cond.instanceMethod ({ cls := "ScriptDesk$Branches", name := "clear", desc := "()V" } : Jvm.MethodName)) := ⟨List.mem_append_right _ (List.mem_of_getElem? (i := 341) rfl), rfl⟩
set_option maxRecDepth 100000 in
theorem w_342 : mp_w (Jvm.Cond.selects "ScriptDesk$Branches" ({ cls := "ScriptDesk$Branches", name := "clear", desc := "()V" } : Jvm.MethodName) ({ cls := "ScriptDesk$Branches", name := "clear", desc := "()V" } : Jvm.MethodName)) := ⟨List.mem_append_right _ (List.mem_of_getElem? (i := 342) rfl), rfl⟩
set_option maxRecDepth 100000 in
theorem w_343 : mp_w (Jvm.Cond.code ({ cls := "ScriptDesk$Branches", name := "clear", desc := "()V" } : Jvm.MethodName) prog_2_method_2_code (1 : Nat) (Option.none : Option Jvm.ClassFile.FieldType)) := ⟨List.mem_append_right _ (List.mem_of_getElem? (i := 343) rfl), rfl⟩
set_option maxRecDepth 100000 in
theorem w_344 : mp_w (Jvm.Cond.methodLink "ScriptDesk$Machine" (54 : Nat) ({ cls := "ScriptDesk$Code", name := "carried", desc := "([BII)I" } : Jvm.MethodName)) := ⟨List.mem_append_right _ (List.mem_of_getElem? (i := 344) rfl), rfl⟩
set_option maxRecDepth 100000 in
theorem w_345 : mp_w (Jvm.Cond.static ({ cls := "ScriptDesk$Code", name := "carried", desc := "([BII)I" } : Jvm.MethodName)) := ⟨List.mem_append_right _ (List.mem_of_getElem? (i := 345) rfl), rfl⟩
set_option maxRecDepth 100000 in
theorem w_346 : mp_w (Jvm.Cond.code ({ cls := "ScriptDesk$Code", name := "carried", desc := "([BII)I" } : Jvm.MethodName) prog_3_method_2_code (4 : Nat) (Option.some Jvm.ClassFile.FieldType.int)) := ⟨List.mem_append_right _ (List.mem_of_getElem? (i := 346) rfl), rfl⟩
set_option maxRecDepth 100000 in
theorem w_347 : mp_w (Jvm.Cond.methodLink "ScriptDesk$Machine" (60 : Nat) ({ cls := "ScriptDesk$Machine", name := "count", desc := "(I)Z" } : Jvm.MethodName)) := ⟨List.mem_append_right _ (List.mem_of_getElem? (i := 347) rfl), rfl⟩
set_option maxRecDepth 100000 in
theorem w_349 : mp_w (Jvm.Cond.instanceMethod ({ cls := "ScriptDesk$Machine", name := "count", desc := "(I)Z" } : Jvm.MethodName)) := ⟨List.mem_append_right _ (List.mem_of_getElem? (i := 349) rfl), rfl⟩
set_option maxRecDepth 100000 in
theorem w_350 : mp_w (Jvm.Cond.code ({ cls := "ScriptDesk$Machine", name := "count", desc := "(I)Z" } : Jvm.MethodName) prog_4_method_5_code (2 : Nat) (Option.some Jvm.ClassFile.FieldType.boolean)) := ⟨List.mem_append_right _ (List.mem_of_getElem? (i := 350) rfl), rfl⟩
set_option maxRecDepth 100000 in
theorem w_351 : mp_w (Jvm.Cond.methodLink "ScriptDesk$Machine" (64 : Nat) ({ cls := "ScriptDesk$Code", name := "isBranch", desc := "(I)Z" } : Jvm.MethodName)) := ⟨List.mem_append_right _ (List.mem_of_getElem? (i := 351) rfl), rfl⟩
set_option maxRecDepth 100000 in
theorem w_352 : mp_w (Jvm.Cond.static ({ cls := "ScriptDesk$Code", name := "isBranch", desc := "(I)Z" } : Jvm.MethodName)) := ⟨List.mem_append_right _ (List.mem_of_getElem? (i := 352) rfl), rfl⟩
set_option maxRecDepth 100000 in
theorem w_353 : mp_w (Jvm.Cond.code ({ cls := "ScriptDesk$Code", name := "isBranch", desc := "(I)Z" } : Jvm.MethodName) prog_3_method_4_code (1 : Nat) (Option.some Jvm.ClassFile.FieldType.boolean)) := ⟨List.mem_append_right _ (List.mem_of_getElem? (i := 353) rfl), rfl⟩
set_option maxRecDepth 100000 in
theorem w_354 : mp_w (Jvm.Cond.methodLink "ScriptDesk$Machine" (67 : Nat) ({ cls := "ScriptDesk$Machine", name := "branch", desc := "(I)Z" } : Jvm.MethodName)) := ⟨List.mem_append_right _ (List.mem_of_getElem? (i := 354) rfl), rfl⟩
set_option maxRecDepth 100000 in
theorem w_356 : mp_w (Jvm.Cond.instanceMethod ({ cls := "ScriptDesk$Machine", name := "branch", desc := "(I)Z" } : Jvm.MethodName)) := ⟨List.mem_append_right _ (List.mem_of_getElem? (i := 356) rfl), rfl⟩
set_option maxRecDepth 100000 in
theorem w_357 : mp_w (Jvm.Cond.code ({ cls := "ScriptDesk$Machine", name := "branch", desc := "(I)Z" } : Jvm.MethodName) prog_4_method_6_code (2 : Nat) (Option.some Jvm.ClassFile.FieldType.boolean)) := ⟨List.mem_append_right _ (List.mem_of_getElem? (i := 357) rfl), rfl⟩
set_option maxRecDepth 100000 in
theorem w_358 : mp_w (Jvm.Cond.methodLink "ScriptDesk$Machine" (90 : Nat) ({ cls := "ScriptDesk$Machine", name := "enter", desc := "(Z)Z" } : Jvm.MethodName)) := ⟨List.mem_append_right _ (List.mem_of_getElem? (i := 358) rfl), rfl⟩
set_option maxRecDepth 100000 in
theorem w_360 : mp_w (Jvm.Cond.instanceMethod ({ cls := "ScriptDesk$Machine", name := "enter", desc := "(Z)Z" } : Jvm.MethodName)) := ⟨List.mem_append_right _ (List.mem_of_getElem? (i := 360) rfl), rfl⟩
set_option maxRecDepth 100000 in
theorem w_361 : mp_w (Jvm.Cond.code ({ cls := "ScriptDesk$Machine", name := "enter", desc := "(Z)Z" } : Jvm.MethodName) prog_4_method_7_code (2 : Nat) (Option.some Jvm.ClassFile.FieldType.boolean)) := ⟨List.mem_append_right _ (List.mem_of_getElem? (i := 361) rfl), rfl⟩
set_option maxRecDepth 100000 in
theorem w_362 : mp_w (Jvm.Cond.methodLink "ScriptDesk$Machine" (70 : Nat) ({ cls := "ScriptDesk$Branches", name := "taken", desc := "()Z" } : Jvm.MethodName)) := ⟨List.mem_append_right _ (List.mem_of_getElem? (i := 362) rfl), rfl⟩
set_option maxRecDepth 100000 in
theorem w_363 : mp_w (Jvm.Cond.instanceMethod ({ cls := "ScriptDesk$Branches", name := "taken", desc := "()Z" } : Jvm.MethodName)) := ⟨List.mem_append_right _ (List.mem_of_getElem? (i := 363) rfl), rfl⟩
set_option maxRecDepth 100000 in
theorem w_364 : mp_w (Jvm.Cond.selects "ScriptDesk$Branches" ({ cls := "ScriptDesk$Branches", name := "taken", desc := "()Z" } : Jvm.MethodName) ({ cls := "ScriptDesk$Branches", name := "taken", desc := "()Z" } : Jvm.MethodName)) := ⟨List.mem_append_right _ (List.mem_of_getElem? (i := 364) rfl), rfl⟩
set_option maxRecDepth 100000 in
theorem w_365 : mp_w (Jvm.Cond.code ({ cls := "ScriptDesk$Branches", name := "taken", desc := "()Z" } : Jvm.MethodName) prog_2_method_4_code (1 : Nat) (Option.some Jvm.ClassFile.FieldType.boolean)) := ⟨List.mem_append_right _ (List.mem_of_getElem? (i := 365) rfl), rfl⟩
set_option maxRecDepth 100000 in
theorem w_366 : mp_w (Jvm.Cond.methodLink "ScriptDesk$Machine" (100 : Nat) ({ cls := "ScriptDesk$Branches", name := "enter", desc := "(Z)V" } : Jvm.MethodName)) := ⟨List.mem_append_right _ (List.mem_of_getElem? (i := 366) rfl), rfl⟩
set_option maxRecDepth 100000 in
theorem w_367 : mp_w (Jvm.Cond.instanceMethod ({ cls := "ScriptDesk$Branches", name := "enter", desc := "(Z)V" } : Jvm.MethodName)) := ⟨List.mem_append_right _ (List.mem_of_getElem? (i := 367) rfl), rfl⟩
set_option maxRecDepth 100000 in
theorem w_368 : mp_w (Jvm.Cond.selects "ScriptDesk$Branches" ({ cls := "ScriptDesk$Branches", name := "enter", desc := "(Z)V" } : Jvm.MethodName) ({ cls := "ScriptDesk$Branches", name := "enter", desc := "(Z)V" } : Jvm.MethodName)) := ⟨List.mem_append_right _ (List.mem_of_getElem? (i := 368) rfl), rfl⟩
set_option maxRecDepth 100000 in
theorem w_369 : mp_w (Jvm.Cond.code ({ cls := "ScriptDesk$Branches", name := "enter", desc := "(Z)V" } : Jvm.MethodName) prog_2_method_5_code (2 : Nat) (Option.none : Option Jvm.ClassFile.FieldType)) := ⟨List.mem_append_right _ (List.mem_of_getElem? (i := 369) rfl), rfl⟩
set_option maxRecDepth 100000 in
theorem w_370 : mp_w (Jvm.Cond.methodLink "ScriptDesk$Machine" (103 : Nat) ({ cls := "ScriptDesk$Stack", name := "holds", desc := "(I)Z" } : Jvm.MethodName)) := ⟨List.mem_append_right _ (List.mem_of_getElem? (i := 370) rfl), rfl⟩
set_option maxRecDepth 100000 in
theorem w_371 : mp_w (Jvm.Cond.instanceMethod ({ cls := "ScriptDesk$Stack", name := "holds", desc := "(I)Z" } : Jvm.MethodName)) := ⟨List.mem_append_right _ (List.mem_of_getElem? (i := 371) rfl), rfl⟩
set_option maxRecDepth 100000 in
theorem w_372 : mp_w (Jvm.Cond.selects "ScriptDesk$Stack" ({ cls := "ScriptDesk$Stack", name := "holds", desc := "(I)Z" } : Jvm.MethodName) ({ cls := "ScriptDesk$Stack", name := "holds", desc := "(I)Z" } : Jvm.MethodName)) := ⟨List.mem_append_right _ (List.mem_of_getElem? (i := 372) rfl), rfl⟩
set_option maxRecDepth 100000 in
theorem w_373 : mp_w (Jvm.Cond.code ({ cls := "ScriptDesk$Stack", name := "holds", desc := "(I)Z" } : Jvm.MethodName) prog_7_method_4_code (2 : Nat) (Option.some Jvm.ClassFile.FieldType.boolean)) := ⟨List.mem_append_right _ (List.mem_of_getElem? (i := 373) rfl), rfl⟩
set_option maxRecDepth 100000 in
theorem w_374 : mp_w (Jvm.Cond.methodLink "ScriptDesk$Machine" (106 : Nat) ({ cls := "ScriptDesk$Stack", name := "pop", desc := "()LScriptDesk$Thing;" } : Jvm.MethodName)) := ⟨List.mem_append_right _ (List.mem_of_getElem? (i := 374) rfl), rfl⟩
set_option maxRecDepth 100000 in
theorem w_375 : mp_w (Jvm.Cond.instanceMethod ({ cls := "ScriptDesk$Stack", name := "pop", desc := "()LScriptDesk$Thing;" } : Jvm.MethodName)) := ⟨List.mem_append_right _ (List.mem_of_getElem? (i := 375) rfl), rfl⟩
set_option maxRecDepth 100000 in
theorem w_376 : mp_w (Jvm.Cond.selects "ScriptDesk$Stack" ({ cls := "ScriptDesk$Stack", name := "pop", desc := "()LScriptDesk$Thing;" } : Jvm.MethodName) ({ cls := "ScriptDesk$Stack", name := "pop", desc := "()LScriptDesk$Thing;" } : Jvm.MethodName)) := ⟨List.mem_append_right _ (List.mem_of_getElem? (i := 376) rfl), rfl⟩
set_option maxRecDepth 100000 in
theorem w_377 : mp_w (Jvm.Cond.code ({ cls := "ScriptDesk$Stack", name := "pop", desc := "()LScriptDesk$Thing;" } : Jvm.MethodName) prog_7_method_7_code (1 : Nat) (Option.some (Jvm.ClassFile.FieldType.object "ScriptDesk$Thing"))) := ⟨List.mem_append_right _ (List.mem_of_getElem? (i := 377) rfl), rfl⟩
set_option maxRecDepth 100000 in
theorem w_378 : mp_w (Jvm.Cond.methodLink "ScriptDesk$Machine" (110 : Nat) ({ cls := "ScriptDesk$Thing", name := "isTrue", desc := "()Z" } : Jvm.MethodName)) := ⟨List.mem_append_right _ (List.mem_of_getElem? (i := 378) rfl), rfl⟩
set_option maxRecDepth 100000 in
theorem w_379 : mp_w (Jvm.Cond.instanceMethod ({ cls := "ScriptDesk$Thing", name := "isTrue", desc := "()Z" } : Jvm.MethodName)) := ⟨List.mem_append_right _ (List.mem_of_getElem? (i := 379) rfl), rfl⟩
set_option maxRecDepth 100000 in
theorem w_380 : mp_w (Jvm.Cond.selects "ScriptDesk$Thing" ({ cls := "ScriptDesk$Thing", name := "isTrue", desc := "()Z" } : Jvm.MethodName) ({ cls := "ScriptDesk$Thing", name := "isTrue", desc := "()Z" } : Jvm.MethodName)) := ⟨List.mem_append_right _ (List.mem_of_getElem? (i := 380) rfl), rfl⟩
set_option maxRecDepth 100000 in
theorem w_381 : mp_w (Jvm.Cond.code ({ cls := "ScriptDesk$Thing", name := "isTrue", desc := "()Z" } : Jvm.MethodName) prog_9_method_7_code (3 : Nat) (Option.some Jvm.ClassFile.FieldType.boolean)) := ⟨List.mem_append_right _ (List.mem_of_getElem? (i := 381) rfl), rfl⟩
set_option maxRecDepth 100000 in
theorem w_382 : mp_w (Jvm.Cond.methodLink "ScriptDesk$Thing" (31 : Nat) ({ cls := "ScriptDesk$Thing", name := "byteAt", desc := "(I)I" } : Jvm.MethodName)) := ⟨List.mem_append_right _ (List.mem_of_getElem? (i := 382) rfl), rfl⟩
set_option maxRecDepth 100000 in
theorem w_383 : mp_w (Jvm.Cond.instanceMethod ({ cls := "ScriptDesk$Thing", name := "byteAt", desc := "(I)I" } : Jvm.MethodName)) := ⟨List.mem_append_right _ (List.mem_of_getElem? (i := 383) rfl), rfl⟩
set_option maxRecDepth 100000 in
theorem w_384 : mp_w (Jvm.Cond.selects "ScriptDesk$Thing" ({ cls := "ScriptDesk$Thing", name := "byteAt", desc := "(I)I" } : Jvm.MethodName) ({ cls := "ScriptDesk$Thing", name := "byteAt", desc := "(I)I" } : Jvm.MethodName)) := ⟨List.mem_append_right _ (List.mem_of_getElem? (i := 384) rfl), rfl⟩
set_option maxRecDepth 100000 in
theorem w_385 : mp_w (Jvm.Cond.code ({ cls := "ScriptDesk$Thing", name := "byteAt", desc := "(I)I" } : Jvm.MethodName) prog_9_method_5_code (2 : Nat) (Option.some Jvm.ClassFile.FieldType.int)) := ⟨List.mem_append_right _ (List.mem_of_getElem? (i := 385) rfl), rfl⟩
set_option maxRecDepth 100000 in
theorem w_386 : mp_w (Jvm.Cond.methodLink "ScriptDesk$Machine" (87 : Nat) ({ cls := "ScriptDesk$Branches", name := "anyOpen", desc := "()Z" } : Jvm.MethodName)) := ⟨List.mem_append_right _ (List.mem_of_getElem? (i := 386) rfl), rfl⟩
set_option maxRecDepth 100000 in
theorem w_387 : mp_w (Jvm.Cond.instanceMethod ({ cls := "ScriptDesk$Branches", name := "anyOpen", desc := "()Z" } : Jvm.MethodName)) := ⟨List.mem_append_right _ (List.mem_of_getElem? (i := 387) rfl), rfl⟩
set_option maxRecDepth 100000 in
theorem w_388 : mp_w (Jvm.Cond.selects "ScriptDesk$Branches" ({ cls := "ScriptDesk$Branches", name := "anyOpen", desc := "()Z" } : Jvm.MethodName) ({ cls := "ScriptDesk$Branches", name := "anyOpen", desc := "()Z" } : Jvm.MethodName)) := ⟨List.mem_append_right _ (List.mem_of_getElem? (i := 388) rfl), rfl⟩
set_option maxRecDepth 100000 in
theorem w_389 : mp_w (Jvm.Cond.code ({ cls := "ScriptDesk$Branches", name := "anyOpen", desc := "()Z" } : Jvm.MethodName) prog_2_method_3_code (1 : Nat) (Option.some Jvm.ClassFile.FieldType.boolean)) := ⟨List.mem_append_right _ (List.mem_of_getElem? (i := 389) rfl), rfl⟩
set_option maxRecDepth 100000 in
theorem w_390 : mp_w (Jvm.Cond.methodLink "ScriptDesk$Machine" (94 : Nat) ({ cls := "ScriptDesk$Branches", name := "turn", desc := "()V" } : Jvm.MethodName)) := ⟨List.mem_append_right _ (List.mem_of_getElem? (i := 390) rfl), rfl⟩
set_option maxRecDepth 100000 in
theorem w_391 : mp_w (Jvm.Cond.instanceMethod ({ cls := "ScriptDesk$Branches", name := "turn", desc := "()V" } : Jvm.MethodName)) := ⟨List.mem_append_right _ (List.mem_of_getElem? (i := 391) rfl), rfl⟩
set_option maxRecDepth 100000 in
theorem w_392 : mp_w (Jvm.Cond.selects "ScriptDesk$Branches" ({ cls := "ScriptDesk$Branches", name := "turn", desc := "()V" } : Jvm.MethodName) ({ cls := "ScriptDesk$Branches", name := "turn", desc := "()V" } : Jvm.MethodName)) := ⟨List.mem_append_right _ (List.mem_of_getElem? (i := 392) rfl), rfl⟩
set_option maxRecDepth 100000 in
theorem w_393 : mp_w (Jvm.Cond.code ({ cls := "ScriptDesk$Branches", name := "turn", desc := "()V" } : Jvm.MethodName) prog_2_method_6_code (1 : Nat) (Option.none : Option Jvm.ClassFile.FieldType)) := ⟨List.mem_append_right _ (List.mem_of_getElem? (i := 393) rfl), rfl⟩
set_option maxRecDepth 100000 in
theorem w_394 : mp_w (Jvm.Cond.methodLink "ScriptDesk$Machine" (97 : Nat) ({ cls := "ScriptDesk$Branches", name := "leave", desc := "()V" } : Jvm.MethodName)) := ⟨List.mem_append_right _ (List.mem_of_getElem? (i := 394) rfl), rfl⟩
set_option maxRecDepth 100000 in
theorem w_395 : mp_w (Jvm.Cond.instanceMethod ({ cls := "ScriptDesk$Branches", name := "leave", desc := "()V" } : Jvm.MethodName)) := ⟨List.mem_append_right _ (List.mem_of_getElem? (i := 395) rfl), rfl⟩
set_option maxRecDepth 100000 in
theorem w_396 : mp_w (Jvm.Cond.selects "ScriptDesk$Branches" ({ cls := "ScriptDesk$Branches", name := "leave", desc := "()V" } : Jvm.MethodName) ({ cls := "ScriptDesk$Branches", name := "leave", desc := "()V" } : Jvm.MethodName)) := ⟨List.mem_append_right _ (List.mem_of_getElem? (i := 396) rfl), rfl⟩
set_option maxRecDepth 100000 in
theorem w_397 : mp_w (Jvm.Cond.code ({ cls := "ScriptDesk$Branches", name := "leave", desc := "()V" } : Jvm.MethodName) prog_2_method_7_code (1 : Nat) (Option.none : Option Jvm.ClassFile.FieldType)) := ⟨List.mem_append_right _ (List.mem_of_getElem? (i := 397) rfl), rfl⟩
set_option maxRecDepth 100000 in
theorem w_398 : mp_w (Jvm.Cond.methodLink "ScriptDesk$Machine" (74 : Nat) ({ cls := "ScriptDesk$Code", name := "isPush", desc := "(I)Z" } : Jvm.MethodName)) := ⟨List.mem_append_right _ (List.mem_of_getElem? (i := 398) rfl), rfl⟩
set_option maxRecDepth 100000 in
theorem w_399 : mp_w (Jvm.Cond.static ({ cls := "ScriptDesk$Code", name := "isPush", desc := "(I)Z" } : Jvm.MethodName)) := ⟨List.mem_append_right _ (List.mem_of_getElem? (i := 399) rfl), rfl⟩
set_option maxRecDepth 100000 in
theorem w_400 : mp_w (Jvm.Cond.code ({ cls := "ScriptDesk$Code", name := "isPush", desc := "(I)Z" } : Jvm.MethodName) prog_3_method_3_code (1 : Nat) (Option.some Jvm.ClassFile.FieldType.boolean)) := ⟨List.mem_append_right _ (List.mem_of_getElem? (i := 400) rfl), rfl⟩
set_option maxRecDepth 100000 in
theorem w_401 : mp_w (Jvm.Cond.methodLink "ScriptDesk$Machine" (77 : Nat) ({ cls := "ScriptDesk$Machine", name := "pushFrom", desc := "([BII)Z" } : Jvm.MethodName)) := ⟨List.mem_append_right _ (List.mem_of_getElem? (i := 401) rfl), rfl⟩
set_option maxRecDepth 100000 in
theorem w_403 : mp_w (Jvm.Cond.instanceMethod ({ cls := "ScriptDesk$Machine", name := "pushFrom", desc := "([BII)Z" } : Jvm.MethodName)) := ⟨List.mem_append_right _ (List.mem_of_getElem? (i := 403) rfl), rfl⟩
set_option maxRecDepth 100000 in
theorem w_404 : mp_w (Jvm.Cond.code ({ cls := "ScriptDesk$Machine", name := "pushFrom", desc := "([BII)Z" } : Jvm.MethodName) prog_4_method_8_code (5 : Nat) (Option.some Jvm.ClassFile.FieldType.boolean)) := ⟨List.mem_append_right _ (List.mem_of_getElem? (i := 404) rfl), rfl⟩
set_option maxRecDepth 100000 in
theorem w_405 : mp_w (Jvm.Cond.classLink "ScriptDesk$Machine" (31 : Nat) "ScriptDesk$Thing") := ⟨List.mem_append_right _ (List.mem_of_getElem? (i := 405) rfl), rfl⟩
set_option maxRecDepth 100000 in
theorem w_406 : mp_w (Jvm.Cond.methodLink "ScriptDesk$Machine" (113 : Nat) ({ cls := "java/util/Arrays", name := "copyOfRange", desc := "([BII)[B" } : Jvm.MethodName)) := ⟨List.mem_append_right _ (List.mem_of_getElem? (i := 406) rfl), rfl⟩
set_option maxRecDepth 100000 in
theorem w_407 : mp_w (Jvm.Cond.static ({ cls := "java/util/Arrays", name := "copyOfRange", desc := "([BII)[B" } : Jvm.MethodName)) := ⟨List.mem_append_right _ (List.mem_of_getElem? (i := 407) rfl), rfl⟩
set_option maxRecDepth 100000 in
theorem w_408 : mp_w (Jvm.Cond.code ({ cls := "java/util/Arrays", name := "copyOfRange", desc := "([BII)[B" } : Jvm.MethodName) prog_29_method_132_code (3 : Nat) (Option.some (Jvm.ClassFile.FieldType.array Jvm.ClassFile.FieldType.byte))) := ⟨List.mem_append_right _ (List.mem_of_getElem? (i := 408) rfl), rfl⟩
set_option maxRecDepth 100000 in
theorem w_409 : mp_w (Jvm.Cond.methodLink "java/util/Arrays" (339 : Nat) ({ cls := "java/util/Arrays", name := "copyOfRangeByte", desc := "([BII)[B" } : Jvm.MethodName)) := ⟨List.mem_append_right _ (List.mem_of_getElem? (i := 409) rfl), rfl⟩
set_option maxRecDepth 100000 in
theorem w_410 : mp_w (Jvm.Cond.static ({ cls := "java/util/Arrays", name := "copyOfRangeByte", desc := "([BII)[B" } : Jvm.MethodName)) := ⟨List.mem_append_right _ (List.mem_of_getElem? (i := 410) rfl), rfl⟩
set_option maxRecDepth 100000 in
theorem w_411 : mp_w (Jvm.Cond.code ({ cls := "java/util/Arrays", name := "copyOfRangeByte", desc := "([BII)[B" } : Jvm.MethodName) prog_29_method_133_code (5 : Nat) (Option.some (Jvm.ClassFile.FieldType.array Jvm.ClassFile.FieldType.byte))) := ⟨List.mem_append_right _ (List.mem_of_getElem? (i := 411) rfl), rfl⟩
set_option maxRecDepth 100000 in
theorem w_412 : mp_w (Jvm.Cond.methodLink "java/util/Arrays" (343 : Nat) ({ cls := "java/util/Arrays", name := "checkLength", desc := "(II)V" } : Jvm.MethodName)) := ⟨List.mem_append_right _ (List.mem_of_getElem? (i := 412) rfl), rfl⟩
set_option maxRecDepth 100000 in
theorem w_413 : mp_w (Jvm.Cond.static ({ cls := "java/util/Arrays", name := "checkLength", desc := "(II)V" } : Jvm.MethodName)) := ⟨List.mem_append_right _ (List.mem_of_getElem? (i := 413) rfl), rfl⟩
set_option maxRecDepth 100000 in
theorem w_414 : mp_w (Jvm.Cond.code ({ cls := "java/util/Arrays", name := "checkLength", desc := "(II)V" } : Jvm.MethodName) prog_29_method_131_code (2 : Nat) (Option.none : Option Jvm.ClassFile.FieldType)) := ⟨List.mem_append_right _ (List.mem_of_getElem? (i := 414) rfl), rfl⟩
set_option maxRecDepth 100000 in
theorem w_415 : mp_w (Jvm.Cond.classLink "java/util/Arrays" (43 : Nat) "java/lang/IllegalArgumentException") := ⟨List.mem_append_right _ (List.mem_of_getElem? (i := 415) rfl), rfl⟩
set_option maxRecDepth 100000 in
theorem w_416 : mp_w (Jvm.Cond.classLink "java/util/Arrays" (45 : Nat) "java/lang/StringBuilder") := ⟨List.mem_append_right _ (List.mem_of_getElem? (i := 416) rfl), rfl⟩
set_option maxRecDepth 100000 in
theorem w_417 : mp_w (Jvm.Cond.instantiable "java/lang/StringBuilder" (4 : Nat)) := ⟨List.mem_append_right _ (List.mem_of_getElem? (i := 417) rfl), rfl⟩
set_option maxRecDepth 100000 in
theorem w_418 : mp_w (Jvm.Cond.methodLink "java/util/Arrays" (47 : Nat) ({ cls := "java/lang/StringBuilder", name := "<init>", desc := "()V" } : Jvm.MethodName)) := ⟨List.mem_append_right _ (List.mem_of_getElem? (i := 418) rfl), rfl⟩
set_option maxRecDepth 100000 in
theorem w_419 : mp_w (Jvm.Cond.instanceMethod ({ cls := "java/lang/StringBuilder", name := "<init>", desc := "()V" } : Jvm.MethodName)) := ⟨List.mem_append_right _ (List.mem_of_getElem? (i := 419) rfl), rfl⟩
set_option maxRecDepth 100000 in
theorem w_420 : mp_w (Jvm.Cond.code ({ cls := "java/lang/StringBuilder", name := "<init>", desc := "()V" } : Jvm.MethodName) prog_24_method_1_code (1 : Nat) (Option.none : Option Jvm.ClassFile.FieldType)) := ⟨List.mem_append_right _ (List.mem_of_getElem? (i := 420) rfl), rfl⟩
set_option maxRecDepth 100000 in
theorem w_421 : mp_w (Jvm.Cond.methodLink "java/lang/StringBuilder" (1 : Nat) ({ cls := "java/lang/AbstractStringBuilder", name := "<init>", desc := "(I)V" } : Jvm.MethodName)) := ⟨List.mem_append_right _ (List.mem_of_getElem? (i := 421) rfl), rfl⟩
set_option maxRecDepth 100000 in
theorem w_422 : mp_w (Jvm.Cond.instanceMethod ({ cls := "java/lang/AbstractStringBuilder", name := "<init>", desc := "(I)V" } : Jvm.MethodName)) := ⟨List.mem_append_right _ (List.mem_of_getElem? (i := 422) rfl), rfl⟩
set_option maxRecDepth 100000 in
theorem w_423 : mp_w (Jvm.Cond.code ({ cls := "java/lang/AbstractStringBuilder", name := "<init>", desc := "(I)V" } : Jvm.MethodName) prog_12_method_2_code (2 : Nat) (Option.none : Option Jvm.ClassFile.FieldType)) := ⟨List.mem_append_right _ (List.mem_of_getElem? (i := 423) rfl), rfl⟩
set_option maxRecDepth 100000 in
theorem w_424 : mp_w (Jvm.Cond.methodLink "java/lang/AbstractStringBuilder" (3 : Nat) ({ cls := "java/lang/Object", name := "<init>", desc := "()V" } : Jvm.MethodName)) := ⟨List.mem_append_right _ (List.mem_of_getElem? (i := 424) rfl), rfl⟩
set_option maxRecDepth 100000 in
theorem w_425 : mp_w (Jvm.Cond.fieldLink "java/lang/AbstractStringBuilder" (18 : Nat) "java/lang/String" "COMPACT_STRINGS" "Z") := ⟨List.mem_append_right _ (List.mem_of_getElem? (i := 425) rfl), rfl⟩
set_option maxRecDepth 100000 in
theorem w_427 : mp_w (Jvm.Cond.methodLink "java/lang/AbstractStringBuilder" (26 : Nat) ({ cls := "java/lang/StringUTF16", name := "newBytesFor", desc := "(I)[B" } : Jvm.MethodName)) := ⟨List.mem_append_right _ (List.mem_of_getElem? (i := 427) rfl), rfl⟩
set_option maxRecDepth 100000 in
theorem w_428 : mp_w (Jvm.Cond.static ({ cls := "java/lang/StringUTF16", name := "newBytesFor", desc := "(I)[B" } : Jvm.MethodName)) := ⟨List.mem_append_right _ (List.mem_of_getElem? (i := 428) rfl), rfl⟩
set_option maxRecDepth 100000 in
theorem w_429 : mp_w (Jvm.Cond.code ({ cls := "java/lang/StringUTF16", name := "newBytesFor", desc := "(I)[B" } : Jvm.MethodName) prog_26_method_2_code (1 : Nat) (Option.some (Jvm.ClassFile.FieldType.array Jvm.ClassFile.FieldType.byte))) := ⟨List.mem_append_right _ (List.mem_of_getElem? (i := 429) rfl), rfl⟩
set_option maxRecDepth 100000 in
theorem w_430 : mp_w (Jvm.Cond.methodLink "java/lang/StringUTF16" (11 : Nat) ({ cls := "java/lang/StringUTF16", name := "newBytesLength", desc := "(I)I" } : Jvm.MethodName)) := ⟨List.mem_append_right _ (List.mem_of_getElem? (i := 430) rfl), rfl⟩
set_option maxRecDepth 100000 in
theorem w_431 : mp_w (Jvm.Cond.static ({ cls := "java/lang/StringUTF16", name := "newBytesLength", desc := "(I)I" } : Jvm.MethodName)) := ⟨List.mem_append_right _ (List.mem_of_getElem? (i := 431) rfl), rfl⟩
set_option maxRecDepth 100000 in
theorem w_432 : mp_w (Jvm.Cond.code ({ cls := "java/lang/StringUTF16", name := "newBytesLength", desc := "(I)I" } : Jvm.MethodName) prog_26_method_3_code (1 : Nat) (Option.some Jvm.ClassFile.FieldType.int)) := ⟨List.mem_append_right _ (List.mem_of_getElem? (i := 432) rfl), rfl⟩
set_option maxRecDepth 100000 in
theorem w_433 : mp_w (Jvm.Cond.constant "java/lang/StringUTF16" (20 : Nat) (1073741823 : Int32)) := ⟨List.mem_append_right _ (List.mem_of_getElem? (i := 433) rfl), rfl⟩
set_option maxRecDepth 100000 in
theorem w_434 : mp_w (Jvm.Cond.fieldLink "java/lang/AbstractStringBuilder" (15 : Nat) "java/lang/AbstractStringBuilder" "value" "[B") := ⟨List.mem_append_right _ (List.mem_of_getElem? (i := 434) rfl), rfl⟩
set_option maxRecDepth 100000 in
theorem w_435 : mp_w (Jvm.Cond.fieldLink "java/lang/AbstractStringBuilder" (22 : Nat) "java/lang/AbstractStringBuilder" "coder" "B") := ⟨List.mem_append_right _ (List.mem_of_getElem? (i := 435) rfl), rfl⟩
set_option maxRecDepth 100000 in
theorem w_436 : mp_w (Jvm.Cond.fieldLink "java/lang/String" (1048 : Nat) "java/lang/AbstractStringBuilder" "maybeLatin1" "Z") := ⟨List.mem_append_right _ (List.mem_of_getElem? (i := 436) rfl), rfl⟩
set_option maxRecDepth 100000 in
theorem w_437 : mp_w (Jvm.Cond.fieldLink "java/lang/AbstractStringBuilder" (79 : Nat) "java/lang/AbstractStringBuilder" "count" "I") := ⟨List.mem_append_right _ (List.mem_of_getElem? (i := 437) rfl), rfl⟩
set_option maxRecDepth 100000 in
theorem w_438 : mp_w (Jvm.Cond.lays "java/lang/StringBuilder" "java/lang/AbstractStringBuilder" "value" "[B") := ⟨List.mem_append_right _ (List.mem_of_getElem? (i := 438) rfl), rfl⟩
set_option maxRecDepth 100000 in
theorem w_440 : mp_w (Jvm.Cond.lays "java/lang/StringBuilder" "java/lang/AbstractStringBuilder" "coder" "B") := ⟨List.mem_append_right _ (List.mem_of_getElem? (i := 440) rfl), rfl⟩
set_option maxRecDepth 100000 in
theorem w_442 : mp_w (Jvm.Cond.lays "java/lang/StringBuilder" "java/lang/AbstractStringBuilder" "maybeLatin1" "Z") := ⟨List.mem_append_right _ (List.mem_of_getElem? (i := 442) rfl), rfl⟩
set_option maxRecDepth 100000 in
theorem w_444 : mp_w (Jvm.Cond.lays "java/lang/StringBuilder" "java/lang/AbstractStringBuilder" "count" "I") := ⟨List.mem_append_right _ (List.mem_of_getElem? (i := 444) rfl), rfl⟩
set_option maxRecDepth 100000 in
theorem w_446 : mp_w (Jvm.Cond.superclass "java/lang/StringBuilder" "java/lang/AbstractStringBuilder") := ⟨List.mem_append_right _ (List.mem_of_getElem? (i := 446) rfl), rfl⟩
set_option maxRecDepth 100000 in
theorem w_447 : mp_w (Jvm.Cond.methodLink "java/util/Arrays" (54 : Nat) ({ cls := "java/lang/StringBuilder", name := "append", desc := "(I)Ljava/lang/StringBuilder;" } : Jvm.MethodName)) := ⟨List.mem_append_right _ (List.mem_of_getElem? (i := 447) rfl), rfl⟩
set_option maxRecDepth 100000 in
theorem w_448 : mp_w (Jvm.Cond.instanceMethod ({ cls := "java/lang/StringBuilder", name := "append", desc := "(I)Ljava/lang/StringBuilder;" } : Jvm.MethodName)) := ⟨List.mem_append_right _ (List.mem_of_getElem? (i := 448) rfl), rfl⟩
set_option maxRecDepth 100000 in
theorem w_449 : mp_w (Jvm.Cond.selects "java/lang/StringBuilder" ({ cls := "java/lang/StringBuilder", name := "append", desc := "(I)Ljava/lang/StringBuilder;" } : Jvm.MethodName) ({ cls := "java/lang/StringBuilder", name := "append", desc := "(I)Ljava/lang/StringBuilder;" } : Jvm.MethodName)) := ⟨List.mem_append_right _ (List.mem_of_getElem? (i := 449) rfl), rfl⟩
set_option maxRecDepth 100000 in
theorem w_450 : mp_w (Jvm.Cond.code ({ cls := "java/lang/StringBuilder", name := "append", desc := "(I)Ljava/lang/StringBuilder;" } : Jvm.MethodName) prog_24_method_15_code (2 : Nat) (Option.some (Jvm.ClassFile.FieldType.object "java/lang/StringBuilder"))) := ⟨List.mem_append_right _ (List.mem_of_getElem? (i := 450) rfl), rfl⟩
set_option maxRecDepth 100000 in
theorem w_451 : mp_w (Jvm.Cond.methodLink "java/lang/StringBuilder" (53 : Nat) ({ cls := "java/lang/AbstractStringBuilder", name := "append", desc := "(I)Ljava/lang/AbstractStringBuilder;" } : Jvm.MethodName)) := ⟨List.mem_append_right _ (List.mem_of_getElem? (i := 451) rfl), rfl⟩
set_option maxRecDepth 100000 in
theorem w_452 : mp_w (Jvm.Cond.instanceMethod ({ cls := "java/lang/AbstractStringBuilder", name := "append", desc := "(I)Ljava/lang/AbstractStringBuilder;" } : Jvm.MethodName)) := ⟨List.mem_append_right _ (List.mem_of_getElem? (i := 452) rfl), rfl⟩
set_option maxRecDepth 100000 in
theorem w_453 : mp_w (Jvm.Cond.code ({ cls := "java/lang/AbstractStringBuilder", name := "append", desc := "(I)Ljava/lang/AbstractStringBuilder;" } : Jvm.MethodName) prog_12_method_32_code (4 : Nat) (Option.some (Jvm.ClassFile.FieldType.object "java/lang/AbstractStringBuilder"))) := ⟨List.mem_append_right _ (List.mem_of_getElem? (i := 453) rfl), rfl⟩
set_option maxRecDepth 100000 in
theorem w_454 : mp_w (Jvm.Cond.methodLink "java/lang/AbstractStringBuilder" (245 : Nat) ({ cls := "java/lang/Integer", name := "stringSize", desc := "(I)I" } : Jvm.MethodName)) := ⟨List.mem_append_right _ (List.mem_of_getElem? (i := 454) rfl), rfl⟩
set_option maxRecDepth 100000 in
theorem w_455 : mp_w (Jvm.Cond.static ({ cls := "java/lang/Integer", name := "stringSize", desc := "(I)I" } : Jvm.MethodName)) := ⟨List.mem_append_right _ (List.mem_of_getElem? (i := 455) rfl), rfl⟩
set_option maxRecDepth 100000 in
theorem w_456 : mp_w (Jvm.Cond.code ({ cls := "java/lang/Integer", name := "stringSize", desc := "(I)I" } : Jvm.MethodName) prog_19_method_13_code (4 : Nat) (Option.some Jvm.ClassFile.FieldType.int)) := ⟨List.mem_append_right _ (List.mem_of_getElem? (i := 456) rfl), rfl⟩
set_option maxRecDepth 100000 in
theorem w_457 : mp_w (Jvm.Cond.methodLink "java/lang/AbstractStringBuilder" (100 : Nat) ({ cls := "java/lang/AbstractStringBuilder", name := "ensureCapacityInternal", desc := "(I)V" } : Jvm.MethodName)) := ⟨List.mem_append_right _ (List.mem_of_getElem? (i := 457) rfl), rfl⟩
set_option maxRecDepth 100000 in
theorem w_459 : mp_w (Jvm.Cond.instanceMethod ({ cls := "java/lang/AbstractStringBuilder", name := "ensureCapacityInternal", desc := "(I)V" } : Jvm.MethodName)) := ⟨List.mem_append_right _ (List.mem_of_getElem? (i := 459) rfl), rfl⟩
set_option maxRecDepth 100000 in
theorem w_460 : mp_w (Jvm.Cond.code ({ cls := "java/lang/AbstractStringBuilder", name := "ensureCapacityInternal", desc := "(I)V" } : Jvm.MethodName) prog_12_method_9_code (3 : Nat) (Option.none : Option Jvm.ClassFile.FieldType)) := ⟨List.mem_append_right _ (List.mem_of_getElem? (i := 460) rfl), rfl⟩
set_option maxRecDepth 100000 in
theorem w_461 : mp_w (Jvm.Cond.methodLink "java/lang/AbstractStringBuilder" (104 : Nat) ({ cls := "java/lang/AbstractStringBuilder", name := "newCapacity", desc := "(I)I" } : Jvm.MethodName)) := ⟨List.mem_append_right _ (List.mem_of_getElem? (i := 461) rfl), rfl⟩
set_option maxRecDepth 100000 in
theorem w_463 : mp_w (Jvm.Cond.instanceMethod ({ cls := "java/lang/AbstractStringBuilder", name := "newCapacity", desc := "(I)I" } : Jvm.MethodName)) := ⟨List.mem_append_right _ (List.mem_of_getElem? (i := 463) rfl), rfl⟩
set_option maxRecDepth 100000 in
theorem w_464 : mp_w (Jvm.Cond.code ({ cls := "java/lang/AbstractStringBuilder", name := "newCapacity", desc := "(I)I" } : Jvm.MethodName) prog_12_method_10_code (6 : Nat) (Option.some Jvm.ClassFile.FieldType.int)) := ⟨List.mem_append_right _ (List.mem_of_getElem? (i := 464) rfl), rfl⟩
set_option maxRecDepth 100000 in
theorem w_465 : mp_w (Jvm.Cond.methodLink "java/lang/AbstractStringBuilder" (114 : Nat) ({ cls := "jdk/internal/util/ArraysSupport", name := "newLength", desc := "(III)I" } : Jvm.MethodName)) := ⟨List.mem_append_right _ (List.mem_of_getElem? (i := 465) rfl), rfl⟩
set_option maxRecDepth 100000 in
theorem w_466 : mp_w (Jvm.Cond.static ({ cls := "jdk/internal/util/ArraysSupport", name := "newLength", desc := "(III)I" } : Jvm.MethodName)) := ⟨List.mem_append_right _ (List.mem_of_getElem? (i := 466) rfl), rfl⟩
set_option maxRecDepth 100000 in
theorem w_467 : mp_w (Jvm.Cond.code ({ cls := "jdk/internal/util/ArraysSupport", name := "newLength", desc := "(III)I" } : Jvm.MethodName) prog_30_method_27_code (4 : Nat) (Option.some Jvm.ClassFile.FieldType.int)) := ⟨List.mem_append_right _ (List.mem_of_getElem? (i := 467) rfl), rfl⟩
set_option maxRecDepth 100000 in
theorem w_468 : mp_w (Jvm.Cond.methodLink "jdk/internal/util/ArraysSupport" (194 : Nat) ({ cls := "java/lang/Math", name := "max", desc := "(II)I" } : Jvm.MethodName)) := ⟨List.mem_append_right _ (List.mem_of_getElem? (i := 468) rfl), rfl⟩
set_option maxRecDepth 100000 in
theorem w_469 : mp_w (Jvm.Cond.constant "jdk/internal/util/ArraysSupport" (200 : Nat) (2147483639 : Int32)) := ⟨List.mem_append_right _ (List.mem_of_getElem? (i := 469) rfl), rfl⟩
set_option maxRecDepth 100000 in
theorem w_470 : mp_w (Jvm.Cond.methodLink "jdk/internal/util/ArraysSupport" (201 : Nat) ({ cls := "jdk/internal/util/ArraysSupport", name := "hugeLength", desc := "(II)I" } : Jvm.MethodName)) := ⟨List.mem_append_right _ (List.mem_of_getElem? (i := 470) rfl), rfl⟩
set_option maxRecDepth 100000 in
theorem w_471 : mp_w (Jvm.Cond.static ({ cls := "jdk/internal/util/ArraysSupport", name := "hugeLength", desc := "(II)I" } : Jvm.MethodName)) := ⟨List.mem_append_right _ (List.mem_of_getElem? (i := 471) rfl), rfl⟩
set_option maxRecDepth 100000 in
theorem w_472 : mp_w (Jvm.Cond.code ({ cls := "jdk/internal/util/ArraysSupport", name := "hugeLength", desc := "(II)I" } : Jvm.MethodName) prog_30_method_28_code (3 : Nat) (Option.some Jvm.ClassFile.FieldType.int)) := ⟨List.mem_append_right _ (List.mem_of_getElem? (i := 472) rfl), rfl⟩
set_option maxRecDepth 100000 in
theorem w_473 : mp_w (Jvm.Cond.constant "java/lang/AbstractStringBuilder" (39 : Nat) (2147483647 : Int32)) := ⟨List.mem_append_right _ (List.mem_of_getElem? (i := 473) rfl), rfl⟩
set_option maxRecDepth 100000 in
theorem w_474 : mp_w (Jvm.Cond.methodLink "java/lang/AbstractStringBuilder" (108 : Nat) ({ cls := "java/util/Arrays", name := "copyOf", desc := "([BI)[B" } : Jvm.MethodName)) := ⟨List.mem_append_right _ (List.mem_of_getElem? (i := 474) rfl), rfl⟩
set_option maxRecDepth 100000 in
theorem w_475 : mp_w (Jvm.Cond.static ({ cls := "java/util/Arrays", name := "copyOf", desc := "([BI)[B" } : Jvm.MethodName)) := ⟨List.mem_append_right _ (List.mem_of_getElem? (i := 475) rfl), rfl⟩
set_option maxRecDepth 100000 in
theorem w_476 : mp_w (Jvm.Cond.code ({ cls := "java/util/Arrays", name := "copyOf", desc := "([BI)[B" } : Jvm.MethodName) prog_29_method_121_code (3 : Nat) (Option.some (Jvm.ClassFile.FieldType.array Jvm.ClassFile.FieldType.byte))) := ⟨List.mem_append_right _ (List.mem_of_getElem? (i := 476) rfl), rfl⟩
set_option maxRecDepth 100000 in
theorem w_477 : mp_w (Jvm.Cond.methodLink "java/util/Arrays" (310 : Nat) ({ cls := "[B", name := "clone", desc := "()Ljava/lang/Object;" } : Jvm.MethodName)) := ⟨List.mem_append_right _ (List.mem_of_getElem? (i := 477) rfl), rfl⟩
set_option maxRecDepth 100000 in
theorem w_478 : mp_w (Jvm.Cond.sameMethod "[B" "java/lang/Object" "clone" "()Ljava/lang/Object;") := ⟨List.mem_append_right _ (List.mem_of_getElem? (i := 478) rfl), rfl⟩
set_option maxRecDepth 100000 in
theorem w_479 : mp_w (Jvm.Cond.native ({ cls := "java/lang/Object", name := "clone", desc := "()Ljava/lang/Object;" } : Jvm.MethodName)) := ⟨List.mem_append_right _ (List.mem_of_getElem? (i := 479) rfl), rfl⟩
set_option maxRecDepth 100000 in
theorem w_480 : mp_w (Jvm.Cond.instanceMethod ({ cls := "java/lang/Object", name := "clone", desc := "()Ljava/lang/Object;" } : Jvm.MethodName)) := ⟨List.mem_append_right _ (List.mem_of_getElem? (i := 480) rfl), rfl⟩
set_option maxRecDepth 100000 in
theorem w_481 : mp_w (Jvm.Cond.selects "[B" ({ cls := "[B", name := "clone", desc := "()Ljava/lang/Object;" } : Jvm.MethodName) ({ cls := "java/lang/Object", name := "clone", desc := "()Ljava/lang/Object;" } : Jvm.MethodName)) := ⟨List.mem_append_right _ (List.mem_of_getElem? (i := 481) rfl), rfl⟩
set_option maxRecDepth 100000 in
theorem w_482 : mp_w (Jvm.Cond.castable "[B" "java/lang/Cloneable") := ⟨List.mem_append_right _ (List.mem_of_getElem? (i := 482) rfl), rfl⟩
set_option maxRecDepth 100000 in
theorem w_483 : mp_w (Jvm.Cond.classLink "java/util/Arrays" (311 : Nat) "[B") := ⟨List.mem_append_right _ (List.mem_of_getElem? (i := 483) rfl), rfl⟩
set_option maxRecDepth 100000 in
theorem w_484 : mp_w (Jvm.Cond.methodLink "java/util/Arrays" (304 : Nat) ({ cls := "java/lang/Math", name := "min", desc := "(II)I" } : Jvm.MethodName)) := ⟨List.mem_append_right _ (List.mem_of_getElem? (i := 484) rfl), rfl⟩
set_option maxRecDepth 100000 in
theorem w_485 : mp_w (Jvm.Cond.static ({ cls := "java/lang/Math", name := "min", desc := "(II)I" } : Jvm.MethodName)) := ⟨List.mem_append_right _ (List.mem_of_getElem? (i := 485) rfl), rfl⟩
set_option maxRecDepth 100000 in
theorem w_486 : mp_w (Jvm.Cond.code ({ cls := "java/lang/Math", name := "min", desc := "(II)I" } : Jvm.MethodName) prog_21_method_69_code (2 : Nat) (Option.some Jvm.ClassFile.FieldType.int)) := ⟨List.mem_append_right _ (List.mem_of_getElem? (i := 486) rfl), rfl⟩
set_option maxRecDepth 100000 in
theorem w_487 : mp_w (Jvm.Cond.methodLink "java/util/Arrays" (150 : Nat) ({ cls := "java/lang/System", name := "arraycopy", desc := "(Ljava/lang/Object;ILjava/lang/Object;II)V" } : Jvm.MethodName)) := ⟨List.mem_append_right _ (List.mem_of_getElem? (i := 487) rfl), rfl⟩
set_option maxRecDepth 100000 in
theorem w_488 : mp_w (Jvm.Cond.static ({ cls := "java/lang/System", name := "arraycopy", desc := "(Ljava/lang/Object;ILjava/lang/Object;II)V" } : Jvm.MethodName)) := ⟨List.mem_append_right _ (List.mem_of_getElem? (i := 488) rfl), rfl⟩
set_option maxRecDepth 100000 in
theorem w_489 : mp_w (Jvm.Cond.native ({ cls := "java/lang/System", name := "arraycopy", desc := "(Ljava/lang/Object;ILjava/lang/Object;II)V" } : Jvm.MethodName)) := ⟨List.mem_append_right _ (List.mem_of_getElem? (i := 489) rfl), rfl⟩
set_option maxRecDepth 100000 in
theorem w_490 : mp_w (Jvm.Cond.methodLink "java/lang/AbstractStringBuilder" (83 : Nat) ({ cls := "java/lang/AbstractStringBuilder", name := "isLatin1", desc := "()Z" } : Jvm.MethodName)) := ⟨List.mem_append_right _ (List.mem_of_getElem? (i := 490) rfl), rfl⟩
set_option maxRecDepth 100000 in
theorem w_491 : mp_w (Jvm.Cond.instanceMethod ({ cls := "java/lang/AbstractStringBuilder", name := "isLatin1", desc := "()Z" } : Jvm.MethodName)) := ⟨List.mem_append_right _ (List.mem_of_getElem? (i := 491) rfl), rfl⟩
set_option maxRecDepth 100000 in
theorem w_492 : mp_w (Jvm.Cond.sameMethod "java/lang/AbstractStringBuilder" "java/lang/AbstractStringBuilder" "isLatin1" "()Z") := ⟨List.mem_append_right _ (List.mem_of_getElem? (i := 492) rfl), rfl⟩
set_option maxRecDepth 100000 in
theorem w_493 : mp_w (Jvm.Cond.selects "java/lang/StringBuilder" ({ cls := "java/lang/AbstractStringBuilder", name := "isLatin1", desc := "()Z" } : Jvm.MethodName) ({ cls := "java/lang/AbstractStringBuilder", name := "isLatin1", desc := "()Z" } : Jvm.MethodName)) := ⟨List.mem_append_right _ (List.mem_of_getElem? (i := 493) rfl), rfl⟩
set_option maxRecDepth 100000 in
theorem w_494 : mp_w (Jvm.Cond.code ({ cls := "java/lang/AbstractStringBuilder", name := "isLatin1", desc := "()Z" } : Jvm.MethodName) prog_12_method_68_code (1 : Nat) (Option.some Jvm.ClassFile.FieldType.boolean)) := ⟨List.mem_append_right _ (List.mem_of_getElem? (i := 494) rfl), rfl⟩
set_option maxRecDepth 100000 in
theorem w_495 : mp_w (Jvm.Cond.methodLink "java/lang/AbstractStringBuilder" (248 : Nat) ({ cls := "java/lang/Integer", name := "getChars", desc := "(II[B)I" } : Jvm.MethodName)) := ⟨List.mem_append_right _ (List.mem_of_getElem? (i := 495) rfl), rfl⟩
set_option maxRecDepth 100000 in
theorem w_496 : mp_w (Jvm.Cond.static ({ cls := "java/lang/Integer", name := "getChars", desc := "(II[B)I" } : Jvm.MethodName)) := ⟨List.mem_append_right _ (List.mem_of_getElem? (i := 496) rfl), rfl⟩
set_option maxRecDepth 100000 in
theorem w_497 : mp_w (Jvm.Cond.code ({ cls := "java/lang/Integer", name := "getChars", desc := "(II[B)I" } : Jvm.MethodName) prog_19_method_12_code (7 : Nat) (Option.some Jvm.ClassFile.FieldType.int)) := ⟨List.mem_append_right _ (List.mem_of_getElem? (i := 497) rfl), rfl⟩
set_option maxRecDepth 100000 in
theorem w_498 : mp_w (Jvm.Cond.fieldLink "java/lang/Integer" (83 : Nat) "java/lang/Integer" "DigitOnes" "[B") := ⟨List.mem_append_right _ (List.mem_of_getElem? (i := 498) rfl), rfl⟩
set_option maxRecDepth 100000 in
theorem w_500 : mp_w (Jvm.Cond.fieldLink "java/lang/Integer" (87 : Nat) "java/lang/Integer" "DigitTens" "[B") := ⟨List.mem_append_right _ (List.mem_of_getElem? (i := 500) rfl), rfl⟩
set_option maxRecDepth 100000 in
theorem w_502 : mp_w (Jvm.Cond.methodLink "java/lang/AbstractStringBuilder" (251 : Nat) ({ cls := "java/lang/StringUTF16", name := "getChars", desc := "(III[B)I" } : Jvm.MethodName)) := ⟨List.mem_append_right _ (List.mem_of_getElem? (i := 502) rfl), rfl⟩
set_option maxRecDepth 100000 in
theorem w_503 : mp_w (Jvm.Cond.static ({ cls := "java/lang/StringUTF16", name := "getChars", desc := "(III[B)I" } : Jvm.MethodName)) := ⟨List.mem_append_right _ (List.mem_of_getElem? (i := 503) rfl), rfl⟩
set_option maxRecDepth 100000 in
theorem w_504 : mp_w (Jvm.Cond.code ({ cls := "java/lang/StringUTF16", name := "getChars", desc := "(III[B)I" } : Jvm.MethodName) prog_26_method_77_code (5 : Nat) (Option.some Jvm.ClassFile.FieldType.int)) := ⟨List.mem_append_right _ (List.mem_of_getElem? (i := 504) rfl), rfl⟩
set_option maxRecDepth 100000 in
theorem w_505 : mp_w (Jvm.Cond.methodLink "java/lang/StringUTF16" (96 : Nat) ({ cls := "java/lang/StringUTF16", name := "checkBoundsBeginEnd", desc := "(II[B)V" } : Jvm.MethodName)) := ⟨List.mem_append_right _ (List.mem_of_getElem? (i := 505) rfl), rfl⟩
set_option maxRecDepth 100000 in
theorem w_506 : mp_w (Jvm.Cond.static ({ cls := "java/lang/StringUTF16", name := "checkBoundsBeginEnd", desc := "(II[B)V" } : Jvm.MethodName)) := ⟨List.mem_append_right _ (List.mem_of_getElem? (i := 506) rfl), rfl⟩
set_option maxRecDepth 100000 in
theorem w_507 : mp_w (Jvm.Cond.code ({ cls := "java/lang/StringUTF16", name := "checkBoundsBeginEnd", desc := "(II[B)V" } : Jvm.MethodName) prog_26_method_93_code (3 : Nat) (Option.none : Option Jvm.ClassFile.FieldType)) := ⟨List.mem_append_right _ (List.mem_of_getElem? (i := 507) rfl), rfl⟩
set_option maxRecDepth 100000 in
theorem w_508 : mp_w (Jvm.Cond.methodLink "java/lang/StringUTF16" (48 : Nat) ({ cls := "java/lang/StringUTF16", name := "length", desc := "([B)I" } : Jvm.MethodName)) := ⟨List.mem_append_right _ (List.mem_of_getElem? (i := 508) rfl), rfl⟩
set_option maxRecDepth 100000 in
theorem w_509 : mp_w (Jvm.Cond.static ({ cls := "java/lang/StringUTF16", name := "length", desc := "([B)I" } : Jvm.MethodName)) := ⟨List.mem_append_right _ (List.mem_of_getElem? (i := 509) rfl), rfl⟩
set_option maxRecDepth 100000 in
theorem w_510 : mp_w (Jvm.Cond.code ({ cls := "java/lang/StringUTF16", name := "length", desc := "([B)I" } : Jvm.MethodName) prog_26_method_6_code (1 : Nat) (Option.some Jvm.ClassFile.FieldType.int)) := ⟨List.mem_append_right _ (List.mem_of_getElem? (i := 510) rfl), rfl⟩
set_option maxRecDepth 100000 in
theorem w_511 : mp_w (Jvm.Cond.methodLink "java/lang/StringUTF16" (241 : Nat) ({ cls := "java/lang/String", name := "checkBoundsBeginEnd", desc := "(III)V" } : Jvm.MethodName)) := ⟨List.mem_append_right _ (List.mem_of_getElem? (i := 511) rfl), rfl⟩
set_option maxRecDepth 100000 in
theorem w_512 : mp_w (Jvm.Cond.static ({ cls := "java/lang/String", name := "checkBoundsBeginEnd", desc := "(III)V" } : Jvm.MethodName)) := ⟨List.mem_append_right _ (List.mem_of_getElem? (i := 512) rfl), rfl⟩
set_option maxRecDepth 100000 in
theorem w_513 : mp_w (Jvm.Cond.code ({ cls := "java/lang/String", name := "checkBoundsBeginEnd", desc := "(III)V" } : Jvm.MethodName) prog_23_method_158_code (3 : Nat) (Option.none : Option Jvm.ClassFile.FieldType)) := ⟨List.mem_append_right _ (List.mem_of_getElem? (i := 513) rfl), rfl⟩
set_option maxRecDepth 100000 in
theorem w_514 : mp_w (Jvm.Cond.fieldLink "java/lang/String" (1053 : Nat) "jdk/internal/util/Preconditions" "SIOOBE_FORMATTER" "Ljava/util/function/BiFunction;") := ⟨List.mem_append_right _ (List.mem_of_getElem? (i := 514) rfl), rfl⟩
set_option maxRecDepth 100000 in
theorem w_516 : mp_w (Jvm.Cond.methodLink "java/lang/String" (1062 : Nat) ({ cls := "jdk/internal/util/Preconditions", name := "checkFromToIndex", desc := "(IIILjava/util/function/BiFunction;)I" } : Jvm.MethodName)) := ⟨List.mem_append_right _ (List.mem_of_getElem? (i := 516) rfl), rfl⟩
set_option maxRecDepth 100000 in
theorem w_517 : mp_w (Jvm.Cond.static ({ cls := "jdk/internal/util/Preconditions", name := "checkFromToIndex", desc := "(IIILjava/util/function/BiFunction;)I" } : Jvm.MethodName)) := ⟨List.mem_append_right _ (List.mem_of_getElem? (i := 517) rfl), rfl⟩
set_option maxRecDepth 100000 in
theorem w_518 : mp_w (Jvm.Cond.code ({ cls := "jdk/internal/util/Preconditions", name := "checkFromToIndex", desc := "(IIILjava/util/function/BiFunction;)I" } : Jvm.MethodName) prog_31_method_12_code (4 : Nat) (Option.some Jvm.ClassFile.FieldType.int)) := ⟨List.mem_append_right _ (List.mem_of_getElem? (i := 518) rfl), rfl⟩
set_option maxRecDepth 100000 in
theorem w_519 : mp_w (Jvm.Cond.methodLink "java/lang/StringUTF16" (393 : Nat) ({ cls := "java/lang/StringUTF16", name := "getChars", desc := "(II[B)I" } : Jvm.MethodName)) := ⟨List.mem_append_right _ (List.mem_of_getElem? (i := 519) rfl), rfl⟩
set_option maxRecDepth 100000 in
theorem w_520 : mp_w (Jvm.Cond.static ({ cls := "java/lang/StringUTF16", name := "getChars", desc := "(II[B)I" } : Jvm.MethodName)) := ⟨List.mem_append_right _ (List.mem_of_getElem? (i := 520) rfl), rfl⟩
set_option maxRecDepth 100000 in
theorem w_521 : mp_w (Jvm.Cond.code ({ cls := "java/lang/StringUTF16", name := "getChars", desc := "(II[B)I" } : Jvm.MethodName) prog_26_method_89_code (7 : Nat) (Option.some Jvm.ClassFile.FieldType.int)) := ⟨List.mem_append_right _ (List.mem_of_getElem? (i := 521) rfl), rfl⟩
set_option maxRecDepth 100000 in
theorem w_522 : mp_w (Jvm.Cond.fieldLink "java/lang/StringUTF16" (403 : Nat) "java/lang/Integer" "DigitOnes" "[B") := ⟨List.mem_append_right _ (List.mem_of_getElem? (i := 522) rfl), rfl⟩
set_option maxRecDepth 100000 in
theorem w_523 : mp_w (Jvm.Cond.methodLink "java/lang/StringUTF16" (111 : Nat) ({ cls := "java/lang/StringUTF16", name := "putChar", desc := "([BII)V" } : Jvm.MethodName)) := ⟨List.mem_append_right _ (List.mem_of_getElem? (i := 523) rfl), rfl⟩
set_option maxRecDepth 100000 in
theorem w_524 : mp_w (Jvm.Cond.static ({ cls := "java/lang/StringUTF16", name := "putChar", desc := "([BII)V" } : Jvm.MethodName)) := ⟨List.mem_append_right _ (List.mem_of_getElem? (i := 524) rfl), rfl⟩
set_option maxRecDepth 100000 in
theorem w_525 : mp_w (Jvm.Cond.code ({ cls := "java/lang/StringUTF16", name := "putChar", desc := "([BII)V" } : Jvm.MethodName) prog_26_method_4_code (3 : Nat) (Option.none : Option Jvm.ClassFile.FieldType)) := ⟨List.mem_append_right _ (List.mem_of_getElem? (i := 525) rfl), rfl⟩
set_option maxRecDepth 100000 in
theorem w_526 : mp_w (Jvm.Cond.fieldLink "java/lang/StringUTF16" (44 : Nat) "java/lang/StringUTF16" "$assertionsDisabled" "Z") := ⟨List.mem_append_right _ (List.mem_of_getElem? (i := 526) rfl), rfl⟩
set_option maxRecDepth 100000 in
theorem w_528 : mp_w (Jvm.Cond.fieldLink "java/lang/StringUTF16" (59 : Nat) "java/lang/StringUTF16" "HI_BYTE_SHIFT" "I") := ⟨List.mem_append_right _ (List.mem_of_getElem? (i := 528) rfl), rfl⟩
set_option maxRecDepth 100000 in
theorem w_530 : mp_w (Jvm.Cond.fieldLink "java/lang/StringUTF16" (63 : Nat) "java/lang/StringUTF16" "LO_BYTE_SHIFT" "I") := ⟨List.mem_append_right _ (List.mem_of_getElem? (i := 530) rfl), rfl⟩
set_option maxRecDepth 100000 in
theorem w_532 : mp_w (Jvm.Cond.fieldLink "java/lang/StringUTF16" (407 : Nat) "java/lang/Integer" "DigitTens" "[B") := ⟨List.mem_append_right _ (List.mem_of_getElem? (i := 532) rfl), rfl⟩
set_option maxRecDepth 100000 in
theorem w_534 : mp_w (Jvm.Cond.methodLink "java/util/Arrays" (50 : Nat) ({ cls := "java/lang/StringBuilder", name := "append", desc := "(Ljava/lang/String;)Ljava/lang/StringBuilder;" } : Jvm.MethodName)) := ⟨List.mem_append_right _ (List.mem_of_getElem? (i := 534) rfl), rfl⟩
set_option maxRecDepth 100000 in
theorem w_535 : mp_w (Jvm.Cond.instanceMethod ({ cls := "java/lang/StringBuilder", name := "append", desc := "(Ljava/lang/String;)Ljava/lang/StringBuilder;" } : Jvm.MethodName)) := ⟨List.mem_append_right _ (List.mem_of_getElem? (i := 535) rfl), rfl⟩
set_option maxRecDepth 100000 in
theorem w_536 : mp_w (Jvm.Cond.selects "java/lang/StringBuilder" ({ cls := "java/lang/StringBuilder", name := "append", desc := "(Ljava/lang/String;)Ljava/lang/StringBuilder;" } : Jvm.MethodName) ({ cls := "java/lang/StringBuilder", name := "append", desc := "(Ljava/lang/String;)Ljava/lang/StringBuilder;" } : Jvm.MethodName)) := ⟨List.mem_append_right _ (List.mem_of_getElem? (i := 536) rfl), rfl⟩
set_option maxRecDepth 100000 in
theorem w_537 : mp_w (Jvm.Cond.code ({ cls := "java/lang/StringBuilder", name := "append", desc := "(Ljava/lang/String;)Ljava/lang/StringBuilder;" } : Jvm.MethodName) prog_24_method_7_code (2 : Nat) (Option.some (Jvm.ClassFile.FieldType.object "java/lang/StringBuilder"))) := ⟨List.mem_append_right _ (List.mem_of_getElem? (i := 537) rfl), rfl⟩
set_option maxRecDepth 100000 in
theorem w_538 : mp_w (Jvm.Cond.methodLink "java/lang/StringBuilder" (29 : Nat) ({ cls := "java/lang/AbstractStringBuilder", name := "append", desc := "(Ljava/lang/String;)Ljava/lang/AbstractStringBuilder;" } : Jvm.MethodName)) := ⟨List.mem_append_right _ (List.mem_of_getElem? (i := 538) rfl), rfl⟩
set_option maxRecDepth 100000 in
theorem w_539 : mp_w (Jvm.Cond.instanceMethod ({ cls := "java/lang/AbstractStringBuilder", name := "append", desc := "(Ljava/lang/String;)Ljava/lang/AbstractStringBuilder;" } : Jvm.MethodName)) := ⟨List.mem_append_right _ (List.mem_of_getElem? (i := 539) rfl), rfl⟩
set_option maxRecDepth 100000 in
theorem w_540 : mp_w (Jvm.Cond.code ({ cls := "java/lang/AbstractStringBuilder", name := "append", desc := "(Ljava/lang/String;)Ljava/lang/AbstractStringBuilder;" } : Jvm.MethodName) prog_12_method_22_code (3 : Nat) (Option.some (Jvm.ClassFile.FieldType.object "java/lang/AbstractStringBuilder"))) := ⟨List.mem_append_right _ (List.mem_of_getElem? (i := 540) rfl), rfl⟩
set_option maxRecDepth 100000 in
theorem w_541 : mp_w (Jvm.Cond.methodLink "java/lang/AbstractStringBuilder" (204 : Nat) ({ cls := "java/lang/AbstractStringBuilder", name := "appendNull", desc := "()Ljava/lang/AbstractStringBuilder;" } : Jvm.MethodName)) := ⟨List.mem_append_right _ (List.mem_of_getElem? (i := 541) rfl), rfl⟩
set_option maxRecDepth 100000 in
theorem w_543 : mp_w (Jvm.Cond.instanceMethod ({ cls := "java/lang/AbstractStringBuilder", name := "appendNull", desc := "()Ljava/lang/AbstractStringBuilder;" } : Jvm.MethodName)) := ⟨List.mem_append_right _ (List.mem_of_getElem? (i := 543) rfl), rfl⟩
set_option maxRecDepth 100000 in
theorem w_544 : mp_w (Jvm.Cond.code ({ cls := "java/lang/AbstractStringBuilder", name := "appendNull", desc := "()Ljava/lang/AbstractStringBuilder;" } : Jvm.MethodName) prog_12_method_26_code (3 : Nat) (Option.some (Jvm.ClassFile.FieldType.object "java/lang/AbstractStringBuilder"))) := ⟨List.mem_append_right _ (List.mem_of_getElem? (i := 544) rfl), rfl⟩
set_option maxRecDepth 100000 in
theorem w_545 : mp_w (Jvm.Cond.methodLink "java/lang/AbstractStringBuilder" (226 : Nat) ({ cls := "java/lang/StringUTF16", name := "putCharsAt", desc := "([BICCCC)I" } : Jvm.MethodName)) := ⟨List.mem_append_right _ (List.mem_of_getElem? (i := 545) rfl), rfl⟩
set_option maxRecDepth 100000 in
theorem w_546 : mp_w (Jvm.Cond.static ({ cls := "java/lang/StringUTF16", name := "putCharsAt", desc := "([BICCCC)I" } : Jvm.MethodName)) := ⟨List.mem_append_right _ (List.mem_of_getElem? (i := 546) rfl), rfl⟩
set_option maxRecDepth 100000 in
theorem w_547 : mp_w (Jvm.Cond.code ({ cls := "java/lang/StringUTF16", name := "putCharsAt", desc := "([BICCCC)I" } : Jvm.MethodName) prog_26_method_81_code (7 : Nat) (Option.some Jvm.ClassFile.FieldType.int)) := ⟨List.mem_append_right _ (List.mem_of_getElem? (i := 547) rfl), rfl⟩
set_option maxRecDepth 100000 in
theorem w_548 : mp_w (Jvm.Cond.methodLink "java/lang/AbstractStringBuilder" (32 : Nat) ({ cls := "java/lang/String", name := "length", desc := "()I" } : Jvm.MethodName)) := ⟨List.mem_append_right _ (List.mem_of_getElem? (i := 548) rfl), rfl⟩
set_option maxRecDepth 100000 in
theorem w_549 : mp_w (Jvm.Cond.instanceMethod ({ cls := "java/lang/String", name := "length", desc := "()I" } : Jvm.MethodName)) := ⟨List.mem_append_right _ (List.mem_of_getElem? (i := 549) rfl), rfl⟩
set_option maxRecDepth 100000 in
theorem w_550 : mp_w (Jvm.Cond.selects "java/lang/String" ({ cls := "java/lang/String", name := "length", desc := "()I" } : Jvm.MethodName) ({ cls := "java/lang/String", name := "length", desc := "()I" } : Jvm.MethodName)) := ⟨List.mem_append_right _ (List.mem_of_getElem? (i := 550) rfl), rfl⟩
set_option maxRecDepth 100000 in
theorem w_551 : mp_w (Jvm.Cond.code ({ cls := "java/lang/String", name := "length", desc := "()I" } : Jvm.MethodName) prog_23_method_54_code (1 : Nat) (Option.some Jvm.ClassFile.FieldType.int)) := ⟨List.mem_append_right _ (List.mem_of_getElem? (i := 551) rfl), rfl⟩
set_option maxRecDepth 100000 in
theorem w_552 : mp_w (Jvm.Cond.methodLink "java/lang/String" (335 : Nat) ({ cls := "java/lang/String", name := "coder", desc := "()B" } : Jvm.MethodName)) := ⟨List.mem_append_right _ (List.mem_of_getElem? (i := 552) rfl), rfl⟩
set_option maxRecDepth 100000 in
theorem w_553 : mp_w (Jvm.Cond.instanceMethod ({ cls := "java/lang/String", name := "coder", desc := "()B" } : Jvm.MethodName)) := ⟨List.mem_append_right _ (List.mem_of_getElem? (i := 553) rfl), rfl⟩
set_option maxRecDepth 100000 in
theorem w_554 : mp_w (Jvm.Cond.selects "java/lang/String" ({ cls := "java/lang/String", name := "coder", desc := "()B" } : Jvm.MethodName) ({ cls := "java/lang/String", name := "coder", desc := "()B" } : Jvm.MethodName)) := ⟨List.mem_append_right _ (List.mem_of_getElem? (i := 554) rfl), rfl⟩
set_option maxRecDepth 100000 in
theorem w_555 : mp_w (Jvm.Cond.code ({ cls := "java/lang/String", name := "coder", desc := "()B" } : Jvm.MethodName) prog_23_method_152_code (1 : Nat) (Option.some Jvm.ClassFile.FieldType.byte)) := ⟨List.mem_append_right _ (List.mem_of_getElem? (i := 555) rfl), rfl⟩
set_option maxRecDepth 100000 in
theorem w_556 : mp_w (Jvm.Cond.fieldLink "java/lang/String" (38 : Nat) "java/lang/String" "COMPACT_STRINGS" "Z") := ⟨List.mem_append_right _ (List.mem_of_getElem? (i := 556) rfl), rfl⟩
set_option maxRecDepth 100000 in
theorem w_557 : mp_w (Jvm.Cond.methodLink "java/lang/AbstractStringBuilder" (208 : Nat) ({ cls := "java/lang/AbstractStringBuilder", name := "putStringAt", desc := "(ILjava/lang/String;)V" } : Jvm.MethodName)) := ⟨List.mem_append_right _ (List.mem_of_getElem? (i := 557) rfl), rfl⟩
set_option maxRecDepth 100000 in
theorem w_559 : mp_w (Jvm.Cond.instanceMethod ({ cls := "java/lang/AbstractStringBuilder", name := "putStringAt", desc := "(ILjava/lang/String;)V" } : Jvm.MethodName)) := ⟨List.mem_append_right _ (List.mem_of_getElem? (i := 559) rfl), rfl⟩
set_option maxRecDepth 100000 in
theorem w_560 : mp_w (Jvm.Cond.code ({ cls := "java/lang/AbstractStringBuilder", name := "putStringAt", desc := "(ILjava/lang/String;)V" } : Jvm.MethodName) prog_12_method_73_code (3 : Nat) (Option.none : Option Jvm.ClassFile.FieldType)) := ⟨List.mem_append_right _ (List.mem_of_getElem? (i := 560) rfl), rfl⟩
set_option maxRecDepth 100000 in
theorem w_561 : mp_w (Jvm.Cond.methodLink "java/lang/AbstractStringBuilder" (397 : Nat) ({ cls := "java/lang/AbstractStringBuilder", name := "inflateIfNeededFor", desc := "(Ljava/lang/String;)V" } : Jvm.MethodName)) := ⟨List.mem_append_right _ (List.mem_of_getElem? (i := 561) rfl), rfl⟩
set_option maxRecDepth 100000 in
theorem w_563 : mp_w (Jvm.Cond.instanceMethod ({ cls := "java/lang/AbstractStringBuilder", name := "inflateIfNeededFor", desc := "(Ljava/lang/String;)V" } : Jvm.MethodName)) := ⟨List.mem_append_right _ (List.mem_of_getElem? (i := 563) rfl), rfl⟩
set_option maxRecDepth 100000 in
theorem w_564 : mp_w (Jvm.Cond.code ({ cls := "java/lang/AbstractStringBuilder", name := "inflateIfNeededFor", desc := "(Ljava/lang/String;)V" } : Jvm.MethodName) prog_12_method_71_code (2 : Nat) (Option.none : Option Jvm.ClassFile.FieldType)) := ⟨List.mem_append_right _ (List.mem_of_getElem? (i := 564) rfl), rfl⟩
set_option maxRecDepth 100000 in
theorem w_565 : mp_w (Jvm.Cond.methodLink "java/lang/AbstractStringBuilder" (40 : Nat) ({ cls := "java/lang/String", name := "coder", desc := "()B" } : Jvm.MethodName)) := ⟨List.mem_append_right _ (List.mem_of_getElem? (i := 565) rfl), rfl⟩
set_option maxRecDepth 100000 in
theorem w_566 : mp_w (Jvm.Cond.methodLink "java/lang/AbstractStringBuilder" (195 : Nat) ({ cls := "java/lang/AbstractStringBuilder", name := "inflate", desc := "()V" } : Jvm.MethodName)) := ⟨List.mem_append_right _ (List.mem_of_getElem? (i := 566) rfl), rfl⟩
set_option maxRecDepth 100000 in
theorem w_568 : mp_w (Jvm.Cond.instanceMethod ({ cls := "java/lang/AbstractStringBuilder", name := "inflate", desc := "()V" } : Jvm.MethodName)) := ⟨List.mem_append_right _ (List.mem_of_getElem? (i := 568) rfl), rfl⟩
set_option maxRecDepth 100000 in
theorem w_569 : mp_w (Jvm.Cond.code ({ cls := "java/lang/AbstractStringBuilder", name := "inflate", desc := "()V" } : Jvm.MethodName) prog_12_method_11_code (2 : Nat) (Option.none : Option Jvm.ClassFile.FieldType)) := ⟨List.mem_append_right _ (List.mem_of_getElem? (i := 569) rfl), rfl⟩
set_option maxRecDepth 100000 in
theorem w_570 : mp_w (Jvm.Cond.methodLink "java/lang/AbstractStringBuilder" (125 : Nat) ({ cls := "java/lang/StringLatin1", name := "inflate", desc := "([BI[BII)V" } : Jvm.MethodName)) := ⟨List.mem_append_right _ (List.mem_of_getElem? (i := 570) rfl), rfl⟩
set_option maxRecDepth 100000 in
theorem w_571 : mp_w (Jvm.Cond.static ({ cls := "java/lang/StringLatin1", name := "inflate", desc := "([BI[BII)V" } : Jvm.MethodName)) := ⟨List.mem_append_right _ (List.mem_of_getElem? (i := 571) rfl), rfl⟩
set_option maxRecDepth 100000 in
theorem w_572 : mp_w (Jvm.Cond.code ({ cls := "java/lang/StringLatin1", name := "inflate", desc := "([BI[BII)V" } : Jvm.MethodName) prog_25_method_50_code (5 : Nat) (Option.none : Option Jvm.ClassFile.FieldType)) := ⟨List.mem_append_right _ (List.mem_of_getElem? (i := 572) rfl), rfl⟩
set_option maxRecDepth 100000 in
theorem w_573 : mp_w (Jvm.Cond.methodLink "java/lang/StringLatin1" (240 : Nat) ({ cls := "java/lang/StringUTF16", name := "inflate", desc := "([BI[BII)V" } : Jvm.MethodName)) := ⟨List.mem_append_right _ (List.mem_of_getElem? (i := 573) rfl), rfl⟩
set_option maxRecDepth 100000 in
theorem w_574 : mp_w (Jvm.Cond.static ({ cls := "java/lang/StringUTF16", name := "inflate", desc := "([BI[BII)V" } : Jvm.MethodName)) := ⟨List.mem_append_right _ (List.mem_of_getElem? (i := 574) rfl), rfl⟩
set_option maxRecDepth 100000 in
theorem w_575 : mp_w (Jvm.Cond.code ({ cls := "java/lang/StringUTF16", name := "inflate", desc := "([BI[BII)V" } : Jvm.MethodName) prog_26_method_86_code (6 : Nat) (Option.none : Option Jvm.ClassFile.FieldType)) := ⟨List.mem_append_right _ (List.mem_of_getElem? (i := 575) rfl), rfl⟩
set_option maxRecDepth 100000 in
theorem w_576 : mp_w (Jvm.Cond.methodLink "java/lang/StringUTF16" (173 : Nat) ({ cls := "java/lang/StringUTF16", name := "checkBoundsOffCount", desc := "(II[B)V" } : Jvm.MethodName)) := ⟨List.mem_append_right _ (List.mem_of_getElem? (i := 576) rfl), rfl⟩
set_option maxRecDepth 100000 in
theorem w_577 : mp_w (Jvm.Cond.static ({ cls := "java/lang/StringUTF16", name := "checkBoundsOffCount", desc := "(II[B)V" } : Jvm.MethodName)) := ⟨List.mem_append_right _ (List.mem_of_getElem? (i := 577) rfl), rfl⟩
set_option maxRecDepth 100000 in
theorem w_578 : mp_w (Jvm.Cond.code ({ cls := "java/lang/StringUTF16", name := "checkBoundsOffCount", desc := "(II[B)V" } : Jvm.MethodName) prog_26_method_94_code (3 : Nat) (Option.none : Option Jvm.ClassFile.FieldType)) := ⟨List.mem_append_right _ (List.mem_of_getElem? (i := 578) rfl), rfl⟩
set_option maxRecDepth 100000 in
theorem w_579 : mp_w (Jvm.Cond.methodLink "java/lang/StringUTF16" (419 : Nat) ({ cls := "java/lang/String", name := "checkBoundsOffCount", desc := "(III)I" } : Jvm.MethodName)) := ⟨List.mem_append_right _ (List.mem_of_getElem? (i := 579) rfl), rfl⟩
set_option maxRecDepth 100000 in
theorem w_580 : mp_w (Jvm.Cond.static ({ cls := "java/lang/String", name := "checkBoundsOffCount", desc := "(III)I" } : Jvm.MethodName)) := ⟨List.mem_append_right _ (List.mem_of_getElem? (i := 580) rfl), rfl⟩
set_option maxRecDepth 100000 in
theorem w_581 : mp_w (Jvm.Cond.code ({ cls := "java/lang/String", name := "checkBoundsOffCount", desc := "(III)I" } : Jvm.MethodName) prog_23_method_157_code (3 : Nat) (Option.some Jvm.ClassFile.FieldType.int)) := ⟨List.mem_append_right _ (List.mem_of_getElem? (i := 581) rfl), rfl⟩
set_option maxRecDepth 100000 in
theorem w_582 : mp_w (Jvm.Cond.methodLink "java/lang/String" (1065 : Nat) ({ cls := "jdk/internal/util/Preconditions", name := "checkFromIndexSize", desc := "(IIILjava/util/function/BiFunction;)I" } : Jvm.MethodName)) := ⟨List.mem_append_right _ (List.mem_of_getElem? (i := 582) rfl), rfl⟩
set_option maxRecDepth 100000 in
theorem w_583 : mp_w (Jvm.Cond.static ({ cls := "jdk/internal/util/Preconditions", name := "checkFromIndexSize", desc := "(IIILjava/util/function/BiFunction;)I" } : Jvm.MethodName)) := ⟨List.mem_append_right _ (List.mem_of_getElem? (i := 583) rfl), rfl⟩
