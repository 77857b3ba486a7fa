def w_L_begin : List Cond := .codeWith y_L_begin b_L_begin 4 (some .int) [(0, 6, 9, 13)] :: LW
def w_L_set : List Cond := .codeWith y_L_set b_L_set 5 (some .int) [(0, 7, 10, 19), (0, 7, 14, 13)] :: LW
def w_L_candidate : List Cond := .codeWith y_L_candidate b_L_candidate 5 (some .int) [(0, 10, 13, 19), (0, 10, 17, 13)] :: LW
def w_L_chosen : List Cond := .codeWith y_L_chosen b_L_chosen 4 (some .int) [(0, 9, 12, 19)] :: LW
def w_L_value : List Cond := .codeWith y_L_value b_L_value 5 (some .int) [(0, 17, 20, 19), (0, 17, 24, 13)] :: LW
theorem d_L_begin_0 : decode b_L_begin 0 = .ok (.aload_n 0, 1) := by decide +kernel
theorem d_L_begin_1 : decode b_L_begin 1 = .ok (.iload_n 1, 1) := by decide +kernel
theorem d_L_begin_2 : decode b_L_begin 2 = .ok (.iload_n 2, 1) := by decide +kernel
theorem d_L_begin_3 : decode b_L_begin 3 = .ok (.invokevirtual 7, 3) := by decide +kernel
theorem d_L_begin_6 : decode b_L_begin 6 = .ok (.goto 6, 3) := by decide +kernel
theorem d_L_begin_9 : decode b_L_begin 9 = .ok (.astore_n 3, 1) := by decide +kernel
theorem d_L_begin_10 : decode b_L_begin 10 = .ok (.iconst 1, 1) := by decide +kernel
theorem d_L_begin_11 : decode b_L_begin 11 = .ok (.ireturn, 1) := by decide +kernel
theorem d_L_begin_12 : decode b_L_begin 12 = .ok (.iconst 0, 1) := by decide +kernel
theorem d_L_begin_13 : decode b_L_begin 13 = .ok (.ireturn, 1) := by decide +kernel
theorem d_L_set_0 : decode b_L_set 0 = .ok (.aload_n 0, 1) := by decide +kernel
theorem d_L_set_1 : decode b_L_set 1 = .ok (.iload_n 1, 1) := by decide +kernel
theorem d_L_set_2 : decode b_L_set 2 = .ok (.iload_n 2, 1) := by decide +kernel
theorem d_L_set_3 : decode b_L_set 3 = .ok (.iload_n 3, 1) := by decide +kernel
theorem d_L_set_4 : decode b_L_set 4 = .ok (.invokevirtual 15, 3) := by decide +kernel
theorem d_L_set_7 : decode b_L_set 7 = .ok (.goto 11, 3) := by decide +kernel
theorem d_L_set_10 : decode b_L_set 10 = .ok (.astore 4, 2) := by decide +kernel
theorem d_L_set_12 : decode b_L_set 12 = .ok (.iconst 1, 1) := by decide +kernel
theorem d_L_set_13 : decode b_L_set 13 = .ok (.ireturn, 1) := by decide +kernel
theorem d_L_set_14 : decode b_L_set 14 = .ok (.astore 4, 2) := by decide +kernel
theorem d_L_set_16 : decode b_L_set 16 = .ok (.iconst 2, 1) := by decide +kernel
theorem d_L_set_17 : decode b_L_set 17 = .ok (.ireturn, 1) := by decide +kernel
theorem d_L_set_18 : decode b_L_set 18 = .ok (.iconst 0, 1) := by decide +kernel
theorem d_L_set_19 : decode b_L_set 19 = .ok (.ireturn, 1) := by decide +kernel
theorem d_L_candidate_0 : decode b_L_candidate 0 = .ok (.aload_n 3, 1) := by decide +kernel
theorem d_L_candidate_1 : decode b_L_candidate 1 = .ok (.iconst 0, 1) := by decide +kernel
theorem d_L_candidate_2 : decode b_L_candidate 2 = .ok (.aload_n 0, 1) := by decide +kernel
theorem d_L_candidate_3 : decode b_L_candidate 3 = .ok (.iload_n 1, 1) := by decide +kernel
theorem d_L_candidate_4 : decode b_L_candidate 4 = .ok (.iload_n 2, 1) := by decide +kernel
theorem d_L_candidate_5 : decode b_L_candidate 5 = .ok (.invokevirtual 21, 3) := by decide +kernel
theorem d_L_candidate_8 : decode b_L_candidate 8 = .ok (.i2l, 1) := by decide +kernel
theorem d_L_candidate_9 : decode b_L_candidate 9 = .ok (.lastore, 1) := by decide +kernel
theorem d_L_candidate_10 : decode b_L_candidate 10 = .ok (.goto 11, 3) := by decide +kernel
theorem d_L_candidate_13 : decode b_L_candidate 13 = .ok (.astore 4, 2) := by decide +kernel
theorem d_L_candidate_15 : decode b_L_candidate 15 = .ok (.iconst 1, 1) := by decide +kernel
theorem d_L_candidate_16 : decode b_L_candidate 16 = .ok (.ireturn, 1) := by decide +kernel
theorem d_L_candidate_17 : decode b_L_candidate 17 = .ok (.astore 4, 2) := by decide +kernel
theorem d_L_candidate_19 : decode b_L_candidate 19 = .ok (.iconst 2, 1) := by decide +kernel
theorem d_L_candidate_20 : decode b_L_candidate 20 = .ok (.ireturn, 1) := by decide +kernel
theorem d_L_candidate_21 : decode b_L_candidate 21 = .ok (.iconst 0, 1) := by decide +kernel
theorem d_L_candidate_22 : decode b_L_candidate 22 = .ok (.ireturn, 1) := by decide +kernel
theorem d_L_chosen_0 : decode b_L_chosen 0 = .ok (.aload_n 2, 1) := by decide +kernel
theorem d_L_chosen_1 : decode b_L_chosen 1 = .ok (.iconst 0, 1) := by decide +kernel
theorem d_L_chosen_2 : decode b_L_chosen 2 = .ok (.aload_n 0, 1) := by decide +kernel
theorem d_L_chosen_3 : decode b_L_chosen 3 = .ok (.iload_n 1, 1) := by decide +kernel
theorem d_L_chosen_4 : decode b_L_chosen 4 = .ok (.invokevirtual 25, 3) := by decide +kernel
theorem d_L_chosen_7 : decode b_L_chosen 7 = .ok (.i2l, 1) := by decide +kernel
theorem d_L_chosen_8 : decode b_L_chosen 8 = .ok (.lastore, 1) := by decide +kernel
theorem d_L_chosen_9 : decode b_L_chosen 9 = .ok (.goto 6, 3) := by decide +kernel
theorem d_L_chosen_12 : decode b_L_chosen 12 = .ok (.astore_n 3, 1) := by decide +kernel
theorem d_L_chosen_13 : decode b_L_chosen 13 = .ok (.iconst 1, 1) := by decide +kernel
theorem d_L_chosen_14 : decode b_L_chosen 14 = .ok (.ireturn, 1) := by decide +kernel
theorem d_L_chosen_15 : decode b_L_chosen 15 = .ok (.iconst 0, 1) := by decide +kernel
theorem d_L_chosen_16 : decode b_L_chosen 16 = .ok (.ireturn, 1) := by decide +kernel
theorem d_L_value_0 : decode b_L_value 0 = .ok (.aload_n 3, 1) := by decide +kernel
theorem d_L_value_1 : decode b_L_value 1 = .ok (.iconst 0, 1) := by decide +kernel
theorem d_L_value_2 : decode b_L_value 2 = .ok (.aload_n 0, 1) := by decide +kernel
theorem d_L_value_3 : decode b_L_value 3 = .ok (.iload_n 1, 1) := by decide +kernel
theorem d_L_value_4 : decode b_L_value 4 = .ok (.iload_n 2, 1) := by decide +kernel
theorem d_L_value_5 : decode b_L_value 5 = .ok (.invokevirtual 29, 3) := by decide +kernel
theorem d_L_value_8 : decode b_L_value 8 = .ok (.ifCond .eq 7, 3) := by decide +kernel
theorem d_L_value_11 : decode b_L_value 11 = .ok (.lconst 1, 1) := by decide +kernel
theorem d_L_value_12 : decode b_L_value 12 = .ok (.goto 4, 3) := by decide +kernel
theorem d_L_value_15 : decode b_L_value 15 = .ok (.lconst 0, 1) := by decide +kernel
theorem d_L_value_16 : decode b_L_value 16 = .ok (.lastore, 1) := by decide +kernel
theorem d_L_value_17 : decode b_L_value 17 = .ok (.goto 11, 3) := by decide +kernel
theorem d_L_value_20 : decode b_L_value 20 = .ok (.astore 4, 2) := by decide +kernel
theorem d_L_value_22 : decode b_L_value 22 = .ok (.iconst 1, 1) := by decide +kernel
theorem d_L_value_23 : decode b_L_value 23 = .ok (.ireturn, 1) := by decide +kernel
theorem d_L_value_24 : decode b_L_value 24 = .ok (.astore 4, 2) := by decide +kernel
theorem d_L_value_26 : decode b_L_value 26 = .ok (.iconst 2, 1) := by decide +kernel
theorem d_L_value_27 : decode b_L_value 27 = .ok (.ireturn, 1) := by decide +kernel
theorem d_L_value_28 : decode b_L_value 28 = .ok (.iconst 0, 1) := by decide +kernel
theorem d_L_value_29 : decode b_L_value 29 = .ok (.ireturn, 1) := by decide +kernel
theorem mw_326 : (Jvm.Cond.classLink "CoverHouseLaw" (13 : Nat) "java/lang/IllegalArgumentException") ∈ LW := LW_at 326 (by decide +kernel) (by decide +kernel)
theorem mw_327 : (Jvm.Cond.methodLink "CoverHouseLaw" (7 : Nat) ({ cls := "CoverHouse", name := "begin", desc := "(II)V" } : Jvm.MethodName)) ∈ LW := LW_at 327 (by decide +kernel) (by decide +kernel)
theorem mw_328 : (Jvm.Cond.instanceMethod ({ cls := "CoverHouse", name := "begin", desc := "(II)V" } : Jvm.MethodName)) ∈ LW := LW_at 328 (by decide +kernel) (by decide +kernel)
theorem mw_329 : (Jvm.Cond.selects "CoverHouse" ({ cls := "CoverHouse", name := "begin", desc := "(II)V" } : Jvm.MethodName) ({ cls := "CoverHouse", name := "begin", desc := "(II)V" } : Jvm.MethodName)) ∈ LW := LW_at 329 (by decide +kernel) (by decide +kernel)
theorem mw_330 : (Jvm.Cond.code ({ cls := "CoverHouse", name := "begin", desc := "(II)V" } : Jvm.MethodName) prog_1_method_2_code (3 : Nat) (Option.none : Option Jvm.ClassFile.FieldType)) ∈ LW := LW_at 330 (by decide +kernel) (by decide +kernel)
theorem mw_402 : (Jvm.Cond.classLink "CoverHouseLaw" (19 : Nat) "java/lang/IndexOutOfBoundsException") ∈ LW := LW_at 402 (by decide +kernel) (by decide +kernel)
theorem mw_403 : (Jvm.Cond.methodLink "CoverHouseLaw" (15 : Nat) ({ cls := "CoverHouse", name := "set", desc := "(III)V" } : Jvm.MethodName)) ∈ LW := LW_at 403 (by decide +kernel) (by decide +kernel)
theorem mw_404 : (Jvm.Cond.instanceMethod ({ cls := "CoverHouse", name := "set", desc := "(III)V" } : Jvm.MethodName)) ∈ LW := LW_at 404 (by decide +kernel) (by decide +kernel)
theorem mw_405 : (Jvm.Cond.selects "CoverHouse" ({ cls := "CoverHouse", name := "set", desc := "(III)V" } : Jvm.MethodName) ({ cls := "CoverHouse", name := "set", desc := "(III)V" } : Jvm.MethodName)) ∈ LW := LW_at 405 (by decide +kernel) (by decide +kernel)
theorem mw_406 : (Jvm.Cond.code ({ cls := "CoverHouse", name := "set", desc := "(III)V" } : Jvm.MethodName) prog_1_method_3_code (5 : Nat) (Option.none : Option Jvm.ClassFile.FieldType)) ∈ LW := LW_at 406 (by decide +kernel) (by decide +kernel)
theorem mw_432 : (Jvm.Cond.methodLink "CoverHouseLaw" (21 : Nat) ({ cls := "CoverHouse", name := "candidate", desc := "(II)I" } : Jvm.MethodName)) ∈ LW := LW_at 432 (by decide +kernel) (by decide +kernel)
theorem mw_433 : (Jvm.Cond.instanceMethod ({ cls := "CoverHouse", name := "candidate", desc := "(II)I" } : Jvm.MethodName)) ∈ LW := LW_at 433 (by decide +kernel) (by decide +kernel)
theorem mw_434 : (Jvm.Cond.selects "CoverHouse" ({ cls := "CoverHouse", name := "candidate", desc := "(II)I" } : Jvm.MethodName) ({ cls := "CoverHouse", name := "candidate", desc := "(II)I" } : Jvm.MethodName)) ∈ LW := LW_at 434 (by decide +kernel) (by decide +kernel)
theorem mw_435 : (Jvm.Cond.code ({ cls := "CoverHouse", name := "candidate", desc := "(II)I" } : Jvm.MethodName) prog_1_method_5_code (3 : Nat) (Option.some Jvm.ClassFile.FieldType.int)) ∈ LW := LW_at 435 (by decide +kernel) (by decide +kernel)
theorem mw_445 : (Jvm.Cond.methodLink "CoverHouseLaw" (25 : Nat) ({ cls := "CoverHouse", name := "chosen", desc := "(I)I" } : Jvm.MethodName)) ∈ LW := LW_at 445 (by decide +kernel) (by decide +kernel)
theorem mw_446 : (Jvm.Cond.instanceMethod ({ cls := "CoverHouse", name := "chosen", desc := "(I)I" } : Jvm.MethodName)) ∈ LW := LW_at 446 (by decide +kernel) (by decide +kernel)
theorem mw_447 : (Jvm.Cond.selects "CoverHouse" ({ cls := "CoverHouse", name := "chosen", desc := "(I)I" } : Jvm.MethodName) ({ cls := "CoverHouse", name := "chosen", desc := "(I)I" } : Jvm.MethodName)) ∈ LW := LW_at 447 (by decide +kernel) (by decide +kernel)
theorem mw_448 : (Jvm.Cond.code ({ cls := "CoverHouse", name := "chosen", desc := "(I)I" } : Jvm.MethodName) prog_1_method_8_code (2 : Nat) (Option.some Jvm.ClassFile.FieldType.int)) ∈ LW := LW_at 448 (by decide +kernel) (by decide +kernel)
theorem mw_453 : (Jvm.Cond.methodLink "CoverHouseLaw" (29 : Nat) ({ cls := "CoverHouse", name := "value", desc := "(II)Z" } : Jvm.MethodName)) ∈ LW := LW_at 453 (by decide +kernel) (by decide +kernel)
theorem mw_454 : (Jvm.Cond.instanceMethod ({ cls := "CoverHouse", name := "value", desc := "(II)Z" } : Jvm.MethodName)) ∈ LW := LW_at 454 (by decide +kernel) (by decide +kernel)
theorem mw_455 : (Jvm.Cond.selects "CoverHouse" ({ cls := "CoverHouse", name := "value", desc := "(II)Z" } : Jvm.MethodName) ({ cls := "CoverHouse", name := "value", desc := "(II)Z" } : Jvm.MethodName)) ∈ LW := LW_at 455 (by decide +kernel) (by decide +kernel)
theorem mw_456 : (Jvm.Cond.code ({ cls := "CoverHouse", name := "value", desc := "(II)Z" } : Jvm.MethodName) prog_1_method_9_code (3 : Nat) (Option.some Jvm.ClassFile.FieldType.boolean)) ∈ LW := LW_at 456 (by decide +kernel) (by decide +kernel)
