set_option maxRecDepth 20000 in
theorem m30_0 : (Cond.methodLink "SignalTheatreLaw" 7 ⟨"SignalTheatre", "feed", "(IIIII)I"⟩ : Cond) ∈ q_big := q_m4 (List.mem_of_getElem? (i := 132) rfl) rfl
set_option maxRecDepth 20000 in
theorem m30_1 : (Cond.code ⟨"SignalTheatre", "feed", "(IIIII)I"⟩ prog_1_method_2_code 6 (Option.some FieldType.int) : Cond) ∈ q_big := q_m4 (List.mem_of_getElem? (i := 135) rfl) rfl
set_option maxRecDepth 20000 in
theorem m30_2 : (Cond.instanceMethod ⟨"SignalTheatre", "feed", "(IIIII)I"⟩ : Cond) ∈ q_big := q_m4 (List.mem_of_getElem? (i := 133) rfl) rfl
set_option maxRecDepth 20000 in
theorem m30_3 : (Cond.selects "SignalTheatre" ⟨"SignalTheatre", "feed", "(IIIII)I"⟩ ⟨"SignalTheatre", "feed", "(IIIII)I"⟩ : Cond) ∈ q_big := q_m4 (List.mem_of_getElem? (i := 134) rfl) rfl
set_option maxRecDepth 20000 in
theorem m30_4 : (Cond.initialized "SignalTheatre" : Cond) ∈ q_big := q_m1 (List.mem_of_getElem? (i := 1) rfl) rfl
set_option maxRecDepth 20000 in
theorem m30_5 : (Cond.methodLink "SignalTheatreLaw" 15 ⟨"SignalTheatre", "end", "(I)I"⟩ : Cond) ∈ q_big := q_m4 (List.mem_of_getElem? (i := 211) rfl) rfl
set_option maxRecDepth 20000 in
theorem m30_6 : (Cond.code ⟨"SignalTheatre", "end", "(I)I"⟩ prog_1_method_4_code 2 (Option.some FieldType.int) : Cond) ∈ q_big := q_m4 (List.mem_of_getElem? (i := 214) rfl) rfl
set_option maxRecDepth 20000 in
theorem m30_7 : (Cond.instanceMethod ⟨"SignalTheatre", "end", "(I)I"⟩ : Cond) ∈ q_big := q_m4 (List.mem_of_getElem? (i := 212) rfl) rfl
set_option maxRecDepth 20000 in
theorem m30_8 : (Cond.selects "SignalTheatre" ⟨"SignalTheatre", "end", "(I)I"⟩ ⟨"SignalTheatre", "end", "(I)I"⟩ : Cond) ∈ q_big := q_m4 (List.mem_of_getElem? (i := 213) rfl) rfl
set_option maxRecDepth 20000 in
theorem m30_9 : (Cond.classLink "SignalTheatreLaw" 19 "java/lang/IllegalArgumentException" : Cond) ∈ q_big := q_m4 (List.mem_of_getElem? (i := 210) rfl) rfl
set_option maxRecDepth 20000 in
theorem m30_10 : (Cond.castable "java/lang/IllegalArgumentException" "java/lang/IllegalArgumentException" : Cond) ∈ q_nest := q_n4 (List.mem_of_getElem? (i := 217) rfl) rfl
set_option maxRecDepth 20000 in
theorem m30_11 : (Cond.methodLink "SignalTheatreLaw" 21 ⟨"SignalTheatre", "build", "()I"⟩ : Cond) ∈ q_big := q_m4 (List.mem_of_getElem? (i := 234) rfl) rfl
set_option maxRecDepth 20000 in
theorem m30_12 : (Cond.code ⟨"SignalTheatre", "build", "()I"⟩ prog_1_method_5_code 3 (Option.some FieldType.int) : Cond) ∈ q_big := q_m4 (List.mem_of_getElem? (i := 237) rfl) rfl
set_option maxRecDepth 20000 in
theorem m30_13 : (Cond.instanceMethod ⟨"SignalTheatre", "build", "()I"⟩ : Cond) ∈ q_big := q_m4 (List.mem_of_getElem? (i := 235) rfl) rfl
set_option maxRecDepth 20000 in
theorem m30_14 : (Cond.selects "SignalTheatre" ⟨"SignalTheatre", "build", "()I"⟩ ⟨"SignalTheatre", "build", "()I"⟩ : Cond) ∈ q_big := q_m4 (List.mem_of_getElem? (i := 236) rfl) rfl
set_option maxRecDepth 20000 in
theorem m30_15 : (Cond.classLink "SignalTheatreLaw" 25 "java/lang/IllegalStateException" : Cond) ∈ q_big := q_m4 (List.mem_of_getElem? (i := 233) rfl) rfl
set_option maxRecDepth 20000 in
theorem m30_16 : (Cond.castable "java/lang/IllegalStateException" "java/lang/IllegalStateException" : Cond) ∈ q_nest := q_n7 (List.mem_of_getElem? (i := 44) rfl) rfl
set_option maxRecDepth 20000 in
theorem m30_17 : (Cond.methodLink "SignalTheatreLaw" 27 ⟨"SignalTheatre", "fault", "(I)I"⟩ : Cond) ∈ q_big := q_m10 (List.mem_of_getElem? (i := 44) rfl) rfl
set_option maxRecDepth 20000 in
theorem m30_18 : (Cond.code ⟨"SignalTheatre", "fault", "(I)I"⟩ prog_1_method_6_code 2 (Option.some FieldType.int) : Cond) ∈ q_big := q_m10 (List.mem_of_getElem? (i := 47) rfl) rfl
set_option maxRecDepth 20000 in
theorem m30_19 : (Cond.instanceMethod ⟨"SignalTheatre", "fault", "(I)I"⟩ : Cond) ∈ q_big := q_m10 (List.mem_of_getElem? (i := 45) rfl) rfl
set_option maxRecDepth 20000 in
theorem m30_20 : (Cond.selects "SignalTheatre" ⟨"SignalTheatre", "fault", "(I)I"⟩ ⟨"SignalTheatre", "fault", "(I)I"⟩ : Cond) ∈ q_big := q_m10 (List.mem_of_getElem? (i := 46) rfl) rfl
set_option maxRecDepth 20000 in
theorem m30_21 : (Cond.methodLink "SignalTheatreLaw" 30 ⟨"SignalTheatre", "run", "(I)I"⟩ : Cond) ∈ q_big := q_m10 (List.mem_of_getElem? (i := 51) rfl) rfl
set_option maxRecDepth 20000 in
theorem m30_22 : (Cond.code ⟨"SignalTheatre", "run", "(I)I"⟩ prog_1_method_7_code 2 (Option.some FieldType.int) : Cond) ∈ q_big := q_m10 (List.mem_of_getElem? (i := 54) rfl) rfl
set_option maxRecDepth 20000 in
theorem m30_23 : (Cond.instanceMethod ⟨"SignalTheatre", "run", "(I)I"⟩ : Cond) ∈ q_big := q_m10 (List.mem_of_getElem? (i := 52) rfl) rfl
set_option maxRecDepth 20000 in
theorem m30_24 : (Cond.selects "SignalTheatre" ⟨"SignalTheatre", "run", "(I)I"⟩ ⟨"SignalTheatre", "run", "(I)I"⟩ : Cond) ∈ q_big := q_m10 (List.mem_of_getElem? (i := 53) rfl) rfl
set_option maxRecDepth 20000 in
theorem m30_25 : (Cond.methodLink "SignalTheatreLaw" 33 ⟨"SignalTheatre", "value", "(III)J"⟩ : Cond) ∈ q_big := q_m11 (List.mem_of_getElem? (i := 43) rfl) rfl
set_option maxRecDepth 20000 in
theorem m30_26 : (Cond.code ⟨"SignalTheatre", "value", "(III)J"⟩ prog_1_method_8_code 5 (Option.some FieldType.long) : Cond) ∈ q_big := q_m11 (List.mem_of_getElem? (i := 46) rfl) rfl
set_option maxRecDepth 20000 in
theorem m30_27 : (Cond.instanceMethod ⟨"SignalTheatre", "value", "(III)J"⟩ : Cond) ∈ q_big := q_m11 (List.mem_of_getElem? (i := 44) rfl) rfl
set_option maxRecDepth 20000 in
theorem m30_28 : (Cond.selects "SignalTheatre" ⟨"SignalTheatre", "value", "(III)J"⟩ ⟨"SignalTheatre", "value", "(III)J"⟩ : Cond) ∈ q_big := q_m11 (List.mem_of_getElem? (i := 45) rfl) rfl
set_option maxRecDepth 20000 in
theorem m30_29 : (Cond.classLink "SignalTheatreLaw" 37 "java/util/NoSuchElementException" : Cond) ∈ q_big := q_m11 (List.mem_of_getElem? (i := 42) rfl) rfl
set_option maxRecDepth 20000 in
theorem m30_30 : (Cond.castable "java/util/NoSuchElementException" "java/util/NoSuchElementException" : Cond) ∈ q_nest := q_n11 (List.mem_of_getElem? (i := 58) rfl) rfl
set_option maxRecDepth 20000 in
theorem m30_31 : (Cond.methodLink "SignalTheatreLaw" 39 ⟨"SignalTheatre", "set", "(IIJJ)V"⟩ : Cond) ∈ q_big := q_m11 (List.mem_of_getElem? (i := 74) rfl) rfl
set_option maxRecDepth 20000 in
theorem m30_32 : (Cond.code ⟨"SignalTheatre", "set", "(IIJJ)V"⟩ prog_1_method_9_code 7 none : Cond) ∈ q_big := q_m11 (List.mem_of_getElem? (i := 77) rfl) rfl
set_option maxRecDepth 20000 in
theorem m30_33 : (Cond.instanceMethod ⟨"SignalTheatre", "set", "(IIJJ)V"⟩ : Cond) ∈ q_big := q_m11 (List.mem_of_getElem? (i := 75) rfl) rfl
set_option maxRecDepth 20000 in
theorem m30_34 : (Cond.selects "SignalTheatre" ⟨"SignalTheatre", "set", "(IIJJ)V"⟩ ⟨"SignalTheatre", "set", "(IIJJ)V"⟩ : Cond) ∈ q_big := q_m11 (List.mem_of_getElem? (i := 76) rfl) rfl
set_option maxRecDepth 20000 in
theorem m30_35 : (Cond.methodLink "SignalTheatreLaw" 43 ⟨"SignalTheatre", "told", "(II)I"⟩ : Cond) ∈ q_big := q_m11 (List.mem_of_getElem? (i := 82) rfl) rfl
set_option maxRecDepth 20000 in
theorem m30_36 : (Cond.code ⟨"SignalTheatre", "told", "(II)I"⟩ prog_1_method_10_code 4 (Option.some FieldType.int) : Cond) ∈ q_big := q_m11 (List.mem_of_getElem? (i := 85) rfl) rfl
set_option maxRecDepth 20000 in
theorem m30_37 : (Cond.instanceMethod ⟨"SignalTheatre", "told", "(II)I"⟩ : Cond) ∈ q_big := q_m11 (List.mem_of_getElem? (i := 83) rfl) rfl
set_option maxRecDepth 20000 in
theorem m30_38 : (Cond.selects "SignalTheatre" ⟨"SignalTheatre", "told", "(II)I"⟩ ⟨"SignalTheatre", "told", "(II)I"⟩ : Cond) ∈ q_big := q_m11 (List.mem_of_getElem? (i := 84) rfl) rfl
set_option maxRecDepth 20000 in
theorem m30_39 : (Cond.methodLink "SignalTheatreLaw" 47 ⟨"SignalTheatre", "letter", "(II)I"⟩ : Cond) ∈ q_big := q_m11 (List.mem_of_getElem? (i := 93) rfl) rfl
set_option maxRecDepth 20000 in
theorem m30_40 : (Cond.code ⟨"SignalTheatre", "letter", "(II)I"⟩ prog_1_method_11_code 3 (Option.some FieldType.int) : Cond) ∈ q_big := q_m11 (List.mem_of_getElem? (i := 96) rfl) rfl
set_option maxRecDepth 20000 in
theorem m30_41 : (Cond.instanceMethod ⟨"SignalTheatre", "letter", "(II)I"⟩ : Cond) ∈ q_big := q_m11 (List.mem_of_getElem? (i := 94) rfl) rfl
set_option maxRecDepth 20000 in
theorem m30_42 : (Cond.selects "SignalTheatre" ⟨"SignalTheatre", "letter", "(II)I"⟩ ⟨"SignalTheatre", "letter", "(II)I"⟩ : Cond) ∈ q_big := q_m11 (List.mem_of_getElem? (i := 95) rfl) rfl
set_option maxRecDepth 20000 in
theorem m30_43 : (Cond.methodLink "SignalTheatreLaw" 50 ⟨"SignalTheatre", "log", "(I)I"⟩ : Cond) ∈ q_big := q_m11 (List.mem_of_getElem? (i := 105) rfl) rfl
set_option maxRecDepth 20000 in
theorem m30_44 : (Cond.code ⟨"SignalTheatre", "log", "(I)I"⟩ prog_1_method_12_code 2 (Option.some FieldType.int) : Cond) ∈ q_big := q_m11 (List.mem_of_getElem? (i := 108) rfl) rfl
set_option maxRecDepth 20000 in
theorem m30_45 : (Cond.instanceMethod ⟨"SignalTheatre", "log", "(I)I"⟩ : Cond) ∈ q_big := q_m11 (List.mem_of_getElem? (i := 106) rfl) rfl
set_option maxRecDepth 20000 in
theorem m30_46 : (Cond.selects "SignalTheatre" ⟨"SignalTheatre", "log", "(I)I"⟩ ⟨"SignalTheatre", "log", "(I)I"⟩ : Cond) ∈ q_big := q_m11 (List.mem_of_getElem? (i := 107) rfl) rfl
set_option maxRecDepth 20000 in
theorem m30_47 : (Cond.classLink "SignalTheatreLaw" 13 "java/lang/IndexOutOfBoundsException" : Cond) ∈ q_big := q_m4 (List.mem_of_getElem? (i := 131) rfl) rfl
set_option maxRecDepth 20000 in
theorem m30_48 : (Cond.castable "java/lang/IndexOutOfBoundsException" "java/lang/IndexOutOfBoundsException" : Cond) ∈ q_nest := q_n4 (List.mem_of_getElem? (i := 138) rfl) rfl
theorem d30_SignalTheatreLaw_feed_0 : decode method_3_code 0 = .ok (.aload 6, 2) := by decide +kernel
theorem d30_SignalTheatreLaw_feed_2 : decode method_3_code 2 = .ok (.iconst 0, 1) := by decide +kernel
theorem d30_SignalTheatreLaw_feed_3 : decode method_3_code 3 = .ok (.aload_n 0, 1) := by decide +kernel
theorem d30_SignalTheatreLaw_feed_4 : decode method_3_code 4 = .ok (.iload_n 1, 1) := by decide +kernel
theorem d30_SignalTheatreLaw_feed_5 : decode method_3_code 5 = .ok (.iload_n 2, 1) := by decide +kernel
theorem d30_SignalTheatreLaw_feed_6 : decode method_3_code 6 = .ok (.iload_n 3, 1) := by decide +kernel
theorem d30_SignalTheatreLaw_feed_7 : decode method_3_code 7 = .ok (.iload 4, 2) := by decide +kernel
theorem d30_SignalTheatreLaw_feed_9 : decode method_3_code 9 = .ok (.iload 5, 2) := by decide +kernel
theorem d30_SignalTheatreLaw_feed_11 : decode method_3_code 11 = .ok (.invokevirtual 7, 3) := by decide +kernel
theorem d30_SignalTheatreLaw_feed_14 : decode method_3_code 14 = .ok (.i2l, 1) := by decide +kernel
theorem d30_SignalTheatreLaw_feed_15 : decode method_3_code 15 = .ok (.lastore, 1) := by decide +kernel
theorem d30_SignalTheatreLaw_feed_16 : decode method_3_code 16 = .ok (.goto 7, 3) := by decide +kernel
theorem d30_SignalTheatreLaw_feed_23 : decode method_3_code 23 = .ok (.iconst 0, 1) := by decide +kernel
theorem d30_SignalTheatreLaw_feed_24 : decode method_3_code 24 = .ok (.ireturn, 1) := by decide +kernel
theorem d30_SignalTheatreLaw_end_0 : decode method_4_code 0 = .ok (.aload_n 2, 1) := by decide +kernel
theorem d30_SignalTheatreLaw_end_1 : decode method_4_code 1 = .ok (.iconst 0, 1) := by decide +kernel
theorem d30_SignalTheatreLaw_end_2 : decode method_4_code 2 = .ok (.aload_n 0, 1) := by decide +kernel
theorem d30_SignalTheatreLaw_end_3 : decode method_4_code 3 = .ok (.iload_n 1, 1) := by decide +kernel
theorem d30_SignalTheatreLaw_end_4 : decode method_4_code 4 = .ok (.invokevirtual 15, 3) := by decide +kernel
theorem d30_SignalTheatreLaw_end_7 : decode method_4_code 7 = .ok (.i2l, 1) := by decide +kernel
theorem d30_SignalTheatreLaw_end_8 : decode method_4_code 8 = .ok (.lastore, 1) := by decide +kernel
theorem d30_SignalTheatreLaw_end_9 : decode method_4_code 9 = .ok (.goto 6, 3) := by decide +kernel
theorem d30_SignalTheatreLaw_end_15 : decode method_4_code 15 = .ok (.iconst 0, 1) := by decide +kernel
theorem d30_SignalTheatreLaw_end_16 : decode method_4_code 16 = .ok (.ireturn, 1) := by decide +kernel
theorem d30_SignalTheatreLaw_end_12 : decode method_4_code 12 = .ok (.astore_n 3, 1) := by decide +kernel
theorem d30_SignalTheatreLaw_end_13 : decode method_4_code 13 = .ok (.iconst 1, 1) := by decide +kernel
theorem d30_SignalTheatreLaw_end_14 : decode method_4_code 14 = .ok (.ireturn, 1) := by decide +kernel
theorem d30_SignalTheatreLaw_build_0 : decode method_5_code 0 = .ok (.aload_n 1, 1) := by decide +kernel
theorem d30_SignalTheatreLaw_build_1 : decode method_5_code 1 = .ok (.iconst 0, 1) := by decide +kernel
theorem d30_SignalTheatreLaw_build_2 : decode method_5_code 2 = .ok (.aload_n 0, 1) := by decide +kernel
theorem d30_SignalTheatreLaw_build_3 : decode method_5_code 3 = .ok (.invokevirtual 21, 3) := by decide +kernel
theorem d30_SignalTheatreLaw_build_11 : decode method_5_code 11 = .ok (.astore_n 2, 1) := by decide +kernel
theorem d30_SignalTheatreLaw_build_12 : decode method_5_code 12 = .ok (.iconst 1, 1) := by decide +kernel
theorem d30_SignalTheatreLaw_build_13 : decode method_5_code 13 = .ok (.ireturn, 1) := by decide +kernel
theorem d30_SignalTheatreLaw_fault_0 : decode method_6_code 0 = .ok (.aload_n 2, 1) := by decide +kernel
theorem d30_SignalTheatreLaw_fault_1 : decode method_6_code 1 = .ok (.iconst 0, 1) := by decide +kernel
theorem d30_SignalTheatreLaw_fault_2 : decode method_6_code 2 = .ok (.aload_n 0, 1) := by decide +kernel
theorem d30_SignalTheatreLaw_fault_3 : decode method_6_code 3 = .ok (.iload_n 1, 1) := by decide +kernel
theorem d30_SignalTheatreLaw_fault_4 : decode method_6_code 4 = .ok (.invokevirtual 27, 3) := by decide +kernel
theorem d30_SignalTheatreLaw_fault_7 : decode method_6_code 7 = .ok (.i2l, 1) := by decide +kernel
theorem d30_SignalTheatreLaw_fault_8 : decode method_6_code 8 = .ok (.lastore, 1) := by decide +kernel
theorem d30_SignalTheatreLaw_fault_9 : decode method_6_code 9 = .ok (.goto 6, 3) := by decide +kernel
theorem d30_SignalTheatreLaw_fault_15 : decode method_6_code 15 = .ok (.iconst 0, 1) := by decide +kernel
theorem d30_SignalTheatreLaw_fault_16 : decode method_6_code 16 = .ok (.ireturn, 1) := by decide +kernel
theorem d30_SignalTheatreLaw_fault_12 : decode method_6_code 12 = .ok (.astore_n 3, 1) := by decide +kernel
theorem d30_SignalTheatreLaw_fault_13 : decode method_6_code 13 = .ok (.iconst 1, 1) := by decide +kernel
theorem d30_SignalTheatreLaw_fault_14 : decode method_6_code 14 = .ok (.ireturn, 1) := by decide +kernel
theorem d30_SignalTheatreLaw_run_0 : decode method_7_code 0 = .ok (.aload_n 2, 1) := by decide +kernel
theorem d30_SignalTheatreLaw_run_1 : decode method_7_code 1 = .ok (.iconst 0, 1) := by decide +kernel
theorem d30_SignalTheatreLaw_run_2 : decode method_7_code 2 = .ok (.aload_n 0, 1) := by decide +kernel
theorem d30_SignalTheatreLaw_run_3 : decode method_7_code 3 = .ok (.iload_n 1, 1) := by decide +kernel
theorem d30_SignalTheatreLaw_run_4 : decode method_7_code 4 = .ok (.invokevirtual 30, 3) := by decide +kernel
theorem d30_SignalTheatreLaw_run_12 : decode method_7_code 12 = .ok (.astore_n 3, 1) := by decide +kernel
theorem d30_SignalTheatreLaw_run_13 : decode method_7_code 13 = .ok (.iconst 1, 1) := by decide +kernel
theorem d30_SignalTheatreLaw_run_14 : decode method_7_code 14 = .ok (.ireturn, 1) := by decide +kernel
theorem d30_SignalTheatreLaw_run_15 : decode method_7_code 15 = .ok (.astore_n 3, 1) := by decide +kernel
theorem d30_SignalTheatreLaw_run_16 : decode method_7_code 16 = .ok (.iconst 2, 1) := by decide +kernel
theorem d30_SignalTheatreLaw_run_17 : decode method_7_code 17 = .ok (.ireturn, 1) := by decide +kernel
theorem d30_SignalTheatreLaw_value_0 : decode method_8_code 0 = .ok (.aload 4, 2) := by decide +kernel
theorem d30_SignalTheatreLaw_value_2 : decode method_8_code 2 = .ok (.iconst 0, 1) := by decide +kernel
theorem d30_SignalTheatreLaw_value_3 : decode method_8_code 3 = .ok (.aload_n 0, 1) := by decide +kernel
theorem d30_SignalTheatreLaw_value_4 : decode method_8_code 4 = .ok (.iload_n 1, 1) := by decide +kernel
theorem d30_SignalTheatreLaw_value_5 : decode method_8_code 5 = .ok (.iload_n 2, 1) := by decide +kernel
theorem d30_SignalTheatreLaw_value_6 : decode method_8_code 6 = .ok (.iload_n 3, 1) := by decide +kernel
theorem d30_SignalTheatreLaw_value_7 : decode method_8_code 7 = .ok (.invokevirtual 33, 3) := by decide +kernel
theorem d30_SignalTheatreLaw_value_14 : decode method_8_code 14 = .ok (.astore 5, 2) := by decide +kernel
theorem d30_SignalTheatreLaw_value_16 : decode method_8_code 16 = .ok (.iconst 1, 1) := by decide +kernel
theorem d30_SignalTheatreLaw_value_17 : decode method_8_code 17 = .ok (.ireturn, 1) := by decide +kernel
theorem d30_SignalTheatreLaw_value_18 : decode method_8_code 18 = .ok (.astore 5, 2) := by decide +kernel
theorem d30_SignalTheatreLaw_value_20 : decode method_8_code 20 = .ok (.iconst 2, 1) := by decide +kernel
theorem d30_SignalTheatreLaw_value_21 : decode method_8_code 21 = .ok (.ireturn, 1) := by decide +kernel
theorem d30_SignalTheatreLaw_set_0 : decode method_9_code 0 = .ok (.aload_n 0, 1) := by decide +kernel
theorem d30_SignalTheatreLaw_set_1 : decode method_9_code 1 = .ok (.iload_n 1, 1) := by decide +kernel
theorem d30_SignalTheatreLaw_set_2 : decode method_9_code 2 = .ok (.iload_n 2, 1) := by decide +kernel
theorem d30_SignalTheatreLaw_set_3 : decode method_9_code 3 = .ok (.lload_n 3, 1) := by decide +kernel
theorem d30_SignalTheatreLaw_set_4 : decode method_9_code 4 = .ok (.lload 5, 2) := by decide +kernel
theorem d30_SignalTheatreLaw_set_6 : decode method_9_code 6 = .ok (.invokevirtual 39, 3) := by decide +kernel
theorem d30_SignalTheatreLaw_set_12 : decode method_9_code 12 = .ok (.astore 7, 2) := by decide +kernel
theorem d30_SignalTheatreLaw_set_14 : decode method_9_code 14 = .ok (.iconst 1, 1) := by decide +kernel
theorem d30_SignalTheatreLaw_set_15 : decode method_9_code 15 = .ok (.ireturn, 1) := by decide +kernel
theorem d30_SignalTheatreLaw_told_0 : decode method_10_code 0 = .ok (.aload_n 3, 1) := by decide +kernel
theorem d30_SignalTheatreLaw_told_1 : decode method_10_code 1 = .ok (.iconst 0, 1) := by decide +kernel
theorem d30_SignalTheatreLaw_told_2 : decode method_10_code 2 = .ok (.aload_n 0, 1) := by decide +kernel
theorem d30_SignalTheatreLaw_told_3 : decode method_10_code 3 = .ok (.iload_n 1, 1) := by decide +kernel
theorem d30_SignalTheatreLaw_told_4 : decode method_10_code 4 = .ok (.iload_n 2, 1) := by decide +kernel
theorem d30_SignalTheatreLaw_told_5 : decode method_10_code 5 = .ok (.invokevirtual 43, 3) := by decide +kernel
theorem d30_SignalTheatreLaw_told_13 : decode method_10_code 13 = .ok (.astore 4, 2) := by decide +kernel
theorem d30_SignalTheatreLaw_told_15 : decode method_10_code 15 = .ok (.iconst 1, 1) := by decide +kernel
theorem d30_SignalTheatreLaw_told_16 : decode method_10_code 16 = .ok (.ireturn, 1) := by decide +kernel
theorem d30_SignalTheatreLaw_told_17 : decode method_10_code 17 = .ok (.astore 4, 2) := by decide +kernel
theorem d30_SignalTheatreLaw_told_19 : decode method_10_code 19 = .ok (.iconst 2, 1) := by decide +kernel
theorem d30_SignalTheatreLaw_told_20 : decode method_10_code 20 = .ok (.ireturn, 1) := by decide +kernel
theorem d30_SignalTheatreLaw_letter_0 : decode method_11_code 0 = .ok (.aload_n 3, 1) := by decide +kernel
theorem d30_SignalTheatreLaw_letter_1 : decode method_11_code 1 = .ok (.iconst 0, 1) := by decide +kernel
theorem d30_SignalTheatreLaw_letter_2 : decode method_11_code 2 = .ok (.aload_n 0, 1) := by decide +kernel
theorem d30_SignalTheatreLaw_letter_3 : decode method_11_code 3 = .ok (.iload_n 1, 1) := by decide +kernel
theorem d30_SignalTheatreLaw_letter_4 : decode method_11_code 4 = .ok (.iload_n 2, 1) := by decide +kernel
theorem d30_SignalTheatreLaw_letter_5 : decode method_11_code 5 = .ok (.invokevirtual 47, 3) := by decide +kernel
theorem d30_SignalTheatreLaw_letter_13 : decode method_11_code 13 = .ok (.astore 4, 2) := by decide +kernel
theorem d30_SignalTheatreLaw_letter_15 : decode method_11_code 15 = .ok (.iconst 1, 1) := by decide +kernel
theorem d30_SignalTheatreLaw_letter_16 : decode method_11_code 16 = .ok (.ireturn, 1) := by decide +kernel
theorem d30_SignalTheatreLaw_log_0 : decode method_12_code 0 = .ok (.aload_n 2, 1) := by decide +kernel
theorem d30_SignalTheatreLaw_log_1 : decode method_12_code 1 = .ok (.iconst 0, 1) := by decide +kernel
theorem d30_SignalTheatreLaw_log_2 : decode method_12_code 2 = .ok (.aload_n 0, 1) := by decide +kernel
theorem d30_SignalTheatreLaw_log_3 : decode method_12_code 3 = .ok (.iload_n 1, 1) := by decide +kernel
theorem d30_SignalTheatreLaw_log_4 : decode method_12_code 4 = .ok (.invokevirtual 50, 3) := by decide +kernel
theorem d30_SignalTheatreLaw_log_12 : decode method_12_code 12 = .ok (.astore_n 3, 1) := by decide +kernel
theorem d30_SignalTheatreLaw_log_13 : decode method_12_code 13 = .ok (.iconst 1, 1) := by decide +kernel
theorem d30_SignalTheatreLaw_log_14 : decode method_12_code 14 = .ok (.ireturn, 1) := by decide +kernel
set_option maxHeartbeats 4000000 in
set_option maxRecDepth 100000 in
/-- the law's feed(..): it returns -/
theorem h_feed_ok (l : Launch) (D : va_G) (h0 : Nat) (p1 : Int32) (p2 : Int32) (p3 : Int32) (p4 : Int32) (p5 : Int32) (o0 : Nat) (s_input : Nat) (s_circuit : Nat) (s_spare : Nat) (s_faults : Nat) (s_builder : Nat) (s_stage : Nat) (cI : ClassId) (g : Nat → Int32) (cO : ClassId) (go : Nat → Int64) : q_Met l ⟨"SignalTheatreLaw", "feed", "(LSignalTheatre;IIIII[J)I"⟩ (Cond.codeWith ⟨"SignalTheatreLaw", "feed", "(LSignalTheatre;IIIII[J)I"⟩ method_3_code 8 (some .int) [(0, 16, 19, 13)]) { frames := 2, cells := 0, slots := 0, locals := 33 } D q_cl [.ref h0, .int p1, .int p2, .int p3, .int p4, .int p5, .ref o0] [(h0, .inr (0, [.ref s_input, .int 0, .int 0, .ref s_circuit, .ref s_spare, .ref s_faults, .ref s_builder, .ref s_stage])), (s_input, .inl (cI, 32768, .inl g)), (o0, .inl (cO, 1, .inr (.inl go)))] [(cI, .byte), (cO, .long)] (fun r w ty => r = .inl (some (.int 0)) ∧ w = [(o0, .inl (cO, 1, .inr (.inl (vp_updL go 0 ((nI 20)).toInt64))))] ∧ ty = [(cO, .long)]) := by
  refine q_ofWH (by decide) ?_
  intro p e s m below meth c C hr hex I
  have hx := C.1
  have hb := C.2.1
  have hl := lv_entry ([.ref h0, .int p1, .int p2, .int p3, .int p4, .int p5, .ref o0]) (n := 8) (Nat.le_of_ble_eq_true rfl)
  rw [lg_entry_eq]
  generalize (lg_sl ([.ref h0, .int p1, .int p2, .int p3, .int p4, .int p5, .ref o0]) ++ List.replicate (8 - (lg_sl ([.ref h0, .int p1, .int p2, .int p3, .int p4, .int p5, .ref o0])).length) Slot.unset).toArray = ls at hl ⊢
  have hl : lv_has ls 8 [(0, .ref h0), (1, .int p1), (2, .int p2), (3, .int p3), (4, .int p4), (5, .int p5), (6, .ref o0)] := hl
  refine lv_aload hx hb d30_SignalTheatreLaw_feed_0 (lv_at hl 6 rfl) ?_
  refine lv_iconst (v := 0) hx hb d30_SignalTheatreLaw_feed_2 (by decide) ?_
  refine lv_aload_n hx hb d30_SignalTheatreLaw_feed_3 rfl (lv_at hl 0 rfl) ?_
  refine lv_iload_n hx hb d30_SignalTheatreLaw_feed_4 rfl (lv_at hl 1 rfl) ?_
  refine lv_iload_n hx hb d30_SignalTheatreLaw_feed_5 rfl (lv_at hl 2 rfl) ?_
  refine lv_iload_n hx hb d30_SignalTheatreLaw_feed_6 rfl (lv_at hl 3 rfl) ?_
  refine lv_iload hx hb d30_SignalTheatreLaw_feed_7 (lv_at hl 4 rfl) ?_
  refine lv_iload hx hb d30_SignalTheatreLaw_feed_9 (lv_at hl 5 rfl) ?_
  refine q_go (wr := [(o0, .inl (cO, 1, .inr (.inl go)))]) (tyr := [(cO, .long)]) C I (q_siteV (As := [.int p1, .int p2, .int p3, .int p4, .int p5]) (rest := [.int 0, .ref o0]) (q0 := 0) C I rfl rfl m30_0 m30_2 m30_3 m30_1 ⟨by decide, by decide⟩ (Eq.trans (b := some 5) (by decide +kernel) rfl) rfl d30_SignalTheatreLaw_feed_11) (c_S_feed l D h0 s_input s_circuit s_spare s_faults s_builder s_stage cI g p1 p2 p3 p4 p5) m30_1 m30_4 [0, 1] [2] [0] [1] rfl rfl (by decide) (by decide) (by decide) rfl rfl hl.1 d30_SignalTheatreLaw_feed_11 (Nat.le_of_ble_eq_true rfl) (Nat.le_of_ble_eq_true rfl) (Nat.le_of_ble_eq_true rfl) (Nat.le_of_ble_eq_true rfl) (fun v w ty H locs hp I => ?_) (fun E w ty H locs q ce hp I hce hcv hcl hX9 => ?_)
  rotate_left
  · obtain ⟨-, -, hv⟩ := hp; cases hv
  obtain ⟨rfl, rfl, hv⟩ := hp
  cases hv
  have I : q_I D q_cl _ s [(o0, .inl (cO, 1, .inr (.inl go)))] [(cO, .long)] H _ := I
  refine W.eq (g2 := F0 m 14 ls [.int (nI 20), .int 0, .ref o0]) rfl ?_
  refine lv_i2l hx hb d30_SignalTheatreLaw_feed_14 rfl ?_
  refine q_last C I 0 0 rfl rfl (by unfold vp_in; decide) d30_SignalTheatreLaw_feed_15 (fun H locs I => ?_)
  have I : q_I D q_cl _ s [(o0, .inl (cO, 1, .inr (.inl (vp_updL go 0 ((nI 20)).toInt64))))] [(cO, .long)] H _ := I
  refine lv_goto (tgt := 23) hx hb d30_SignalTheatreLaw_feed_16 (by decide) ?_
  refine lv_iconst (v := 0) hx hb d30_SignalTheatreLaw_feed_23 (by decide) ?_
  have I : q_I D q_cl _ s [(o0, .inl (cO, 1, .inr (.inl (vp_updL go 0 ((nI 20)).toInt64))))] [(cO, .long)] _ _ := q_pick I [0] [0] rfl (by decide) rfl
  exact q_iret C hr I ⟨rfl, rfl, rfl⟩ (Nat.le_of_ble_eq_true rfl) (Nat.le_of_ble_eq_true rfl) d30_SignalTheatreLaw_feed_24
set_option maxHeartbeats 4000000 in
set_option maxRecDepth 100000 in
/-- the law's end(..): it returns -/
theorem h_end_ok (l : Launch) (D : va_G) (hl9 : l.stackTraces = false) (h0 : Nat) (p1 : Int32) (o0 : Nat) (s_input : Nat) (s_circuit : Nat) (s_spare : Nat) (s_faults : Nat) (s_builder : Nat) (s_stage : Nat) (cO : ClassId) (go : Nat → Int64) (z : Int32) (ho : o_end p1 = Sum.inl (some (.int z))) : q_Met l ⟨"SignalTheatreLaw", "end", "(LSignalTheatre;I[J)I"⟩ (Cond.codeWith ⟨"SignalTheatreLaw", "end", "(LSignalTheatre;I[J)I"⟩ method_4_code 4 (some .int) [(0, 9, 12, 19)]) { frames := 7, cells := 1, slots := 6, locals := 96 } D q_cl [.ref h0, .int p1, .ref o0] [(h0, .inr (0, [.ref s_input, .int 0, .int 0, .ref s_circuit, .ref s_spare, .ref s_faults, .ref s_builder, .ref s_stage])), (o0, .inl (cO, 1, .inr (.inl go)))] [(cO, .long)] (fun r w ty => r = .inl (some (.int 0)) ∧ w = [(o0, .inl (cO, 1, .inr (.inl (vp_updL go 0 (z).toInt64))))] ∧ ty = [(cO, .long)]) := by
  refine q_ofWH (by decide) ?_
  intro p e s m below meth c C hr hex I
  have hx := C.1
  have hb := C.2.1
  have hl := lv_entry ([.ref h0, .int p1, .ref o0]) (n := 4) (Nat.le_of_ble_eq_true rfl)
  rw [lg_entry_eq]
  generalize (lg_sl ([.ref h0, .int p1, .ref o0]) ++ List.replicate (4 - (lg_sl ([.ref h0, .int p1, .ref o0])).length) Slot.unset).toArray = ls at hl ⊢
  have hl : lv_has ls 4 [(0, .ref h0), (1, .int p1), (2, .ref o0)] := hl
  refine lv_aload_n hx hb d30_SignalTheatreLaw_end_0 rfl (lv_at hl 2 rfl) ?_
  refine lv_iconst (v := 0) hx hb d30_SignalTheatreLaw_end_1 (by decide) ?_
  refine lv_aload_n hx hb d30_SignalTheatreLaw_end_2 rfl (lv_at hl 0 rfl) ?_
  refine lv_iload_n hx hb d30_SignalTheatreLaw_end_3 rfl (lv_at hl 1 rfl) ?_
  refine q_go (wr := [(o0, .inl (cO, 1, .inr (.inl go)))]) (tyr := [(cO, .long)]) C I (q_siteV (As := [.int p1]) (rest := [.int 0, .ref o0]) (q0 := 0) C I rfl rfl m30_5 m30_7 m30_8 m30_6 ⟨by decide, by decide⟩ (Eq.trans (b := some 1) (by decide +kernel) rfl) rfl d30_SignalTheatreLaw_end_4) (c_S_end l D hl9 h0 s_input s_circuit s_spare s_faults s_builder s_stage p1) m30_6 m30_4 [0] [1] [] [0] rfl rfl (by decide) (by decide) (by decide) rfl rfl hl.1 d30_SignalTheatreLaw_end_4 (Nat.le_of_ble_eq_true rfl) (Nat.le_of_ble_eq_true rfl) (Nat.le_of_ble_eq_true rfl) (Nat.le_of_ble_eq_true rfl) (fun v w ty H locs hp I => ?_) (fun E w ty H locs q ce hp I hce hcv hcl hX9 => ?_)
  rotate_left
  · obtain ⟨-, -, hv⟩ := hp; rw [ho] at hv; cases hv
  obtain ⟨rfl, rfl, hv⟩ := hp
  rw [ho] at hv
  cases hv
  have I : q_I D q_cl _ s [(o0, .inl (cO, 1, .inr (.inl go)))] [(cO, .long)] H _ := I
  refine W.eq (g2 := F0 m 7 ls [.int z, .int 0, .ref o0]) rfl ?_
  refine lv_i2l hx hb d30_SignalTheatreLaw_end_7 rfl ?_
  refine q_last C I 0 0 rfl rfl (by unfold vp_in; decide) d30_SignalTheatreLaw_end_8 (fun H locs I => ?_)
  have I : q_I D q_cl _ s [(o0, .inl (cO, 1, .inr (.inl (vp_updL go 0 (z).toInt64))))] [(cO, .long)] H _ := I
  refine lv_goto (tgt := 15) hx hb d30_SignalTheatreLaw_end_9 (by decide) ?_
  refine lv_iconst (v := 0) hx hb d30_SignalTheatreLaw_end_15 (by decide) ?_
  have I : q_I D q_cl _ s [(o0, .inl (cO, 1, .inr (.inl (vp_updL go 0 (z).toInt64))))] [(cO, .long)] _ _ := q_pick I [0] [0] rfl (by decide) rfl
  exact q_iret C hr I ⟨rfl, rfl, rfl⟩ (Nat.le_of_ble_eq_true rfl) (Nat.le_of_ble_eq_true rfl) d30_SignalTheatreLaw_end_16
set_option maxHeartbeats 4000000 in
set_option maxRecDepth 100000 in
/-- the law's end(..): caught, 1 -/
theorem h_end_ex1 (l : Launch) (D : va_G) (hl9 : l.stackTraces = false) (h0 : Nat) (p1 : Int32) (o0 : Nat) (s_input : Nat) (s_circuit : Nat) (s_spare : Nat) (s_faults : Nat) (s_builder : Nat) (s_stage : Nat) (cO : ClassId) (go : Nat → Int64) (ho : o_end p1 = Sum.inr "java/lang/IllegalArgumentException") : q_Met l ⟨"SignalTheatreLaw", "end", "(LSignalTheatre;I[J)I"⟩ (Cond.codeWith ⟨"SignalTheatreLaw", "end", "(LSignalTheatre;I[J)I"⟩ method_4_code 4 (some .int) [(0, 9, 12, 19)]) { frames := 7, cells := 1, slots := 6, locals := 96 } D q_cl [.ref h0, .int p1, .ref o0] [(h0, .inr (0, [.ref s_input, .int 0, .int 0, .ref s_circuit, .ref s_spare, .ref s_faults, .ref s_builder, .ref s_stage])), (o0, .inl (cO, 1, .inr (.inl go)))] [(cO, .long)] (fun r w ty => r = .inl (some (.int 1)) ∧ w = [(o0, .inl (cO, 1, .inr (.inl go)))] ∧ ty = [(cO, .long)]) := by
  refine q_ofWH (by decide) ?_
  intro p e s m below meth c C hr hex I
  have hx := C.1
  have hb := C.2.1
  have hl := lv_entry ([.ref h0, .int p1, .ref o0]) (n := 4) (Nat.le_of_ble_eq_true rfl)
  rw [lg_entry_eq]
  generalize (lg_sl ([.ref h0, .int p1, .ref o0]) ++ List.replicate (4 - (lg_sl ([.ref h0, .int p1, .ref o0])).length) Slot.unset).toArray = ls at hl ⊢
  have hl : lv_has ls 4 [(0, .ref h0), (1, .int p1), (2, .ref o0)] := hl
  refine lv_aload_n hx hb d30_SignalTheatreLaw_end_0 rfl (lv_at hl 2 rfl) ?_
  refine lv_iconst (v := 0) hx hb d30_SignalTheatreLaw_end_1 (by decide) ?_
  refine lv_aload_n hx hb d30_SignalTheatreLaw_end_2 rfl (lv_at hl 0 rfl) ?_
  refine lv_iload_n hx hb d30_SignalTheatreLaw_end_3 rfl (lv_at hl 1 rfl) ?_
  refine q_go (wr := [(o0, .inl (cO, 1, .inr (.inl go)))]) (tyr := [(cO, .long)]) C I (q_siteV (As := [.int p1]) (rest := [.int 0, .ref o0]) (q0 := 0) C I rfl rfl m30_5 m30_7 m30_8 m30_6 ⟨by decide, by decide⟩ (Eq.trans (b := some 1) (by decide +kernel) rfl) rfl d30_SignalTheatreLaw_end_4) (c_S_end l D hl9 h0 s_input s_circuit s_spare s_faults s_builder s_stage p1) m30_6 m30_4 [0] [1] [] [0] rfl rfl (by decide) (by decide) (by decide) rfl rfl hl.1 d30_SignalTheatreLaw_end_4 (Nat.le_of_ble_eq_true rfl) (Nat.le_of_ble_eq_true rfl) (Nat.le_of_ble_eq_true rfl) (Nat.le_of_ble_eq_true rfl) (fun v w ty H locs hp I => ?_) (fun E w ty H locs q ce hp I hce hcv hcl hX9 => ?_)
  · obtain ⟨-, -, hv⟩ := hp; rw [ho] at hv; cases hv
  obtain ⟨rfl, rfl, hv⟩ := hp
  rw [ho] at hv
  cases hv
  have I : q_I D q_cl _ s [(o0, .inl (cO, 1, .inr (.inl go)))] [(cO, .long)] H _ := I
  refine q_catch C [] { startPc := 0, endPc := 9, handlerPc := 12, catchType := 19 } [] (q_tab1 hex) (fun z hz => nomatch hz) (by decide) (by decide) m30_9 m30_10 hce hcv hcl ?_
  show W _ _ _ _ _ _ _ _ _ _ _ _ _ _ _ (F0 m 12 ls [.ref q])
  refine lv_astore_n (lv' := [(3, .ref q), (0, .ref h0), (1, .int p1), (2, .ref o0)]) hx hb d30_SignalTheatreLaw_end_12 rfl hl (by decide) rfl (fun ls hl => ?_)
  refine lv_iconst (v := 1) hx hb d30_SignalTheatreLaw_end_13 (by decide) ?_
  have I : q_I D q_cl _ s [(o0, .inl (cO, 1, .inr (.inl go)))] [(cO, .long)] _ _ := q_pick I [0] [0] rfl (by decide) rfl
  exact q_iret C hr I ⟨rfl, rfl, rfl⟩ (Nat.le_of_ble_eq_true rfl) (Nat.le_of_ble_eq_true rfl) d30_SignalTheatreLaw_end_14
set_option maxHeartbeats 4000000 in
set_option maxRecDepth 100000 in
/-- the law's build(..): caught, 1 -/
theorem h_build_ex1 (l : Launch) (D : va_G) (hl9 : l.stackTraces = false) (h0 : Nat) (o0 : Nat) (q1 : Nat) (q36 : Nat) (q67 : Nat) (q19 : Nat) (q98 : Nat) (q108 : Nat) (cA2 : ClassId) (g_q1 : Nat → Int32) (q3 : Nat) (q68 : Nat) (q69 : Nat) (q70 : Nat) (q71 : Nat) (q72 : Nat) (q73 : Nat) (q74 : Nat) (q75 : Nat) (q76 : Nat) (q77 : Nat) (q78 : Nat) (q79 : Nat) (q80 : Nat) (q81 : Nat) (cA82 : ClassId) (g_q68 : Nat → Int32) (q83 : Nat) (q84 : Nat) (q85 : Nat) (q86 : Nat) (q87 : Nat) (q88 : Nat) (q89 : Nat) (q90 : Nat) (q91 : Nat) (q92 : Nat) (q93 : Nat) (q94 : Nat) (q95 : Nat) (q96 : Nat) (q97 : Nat) (q20 : Nat) (q31 : Nat) (q99 : Nat) (q100 : Nat) (q101 : Nat) (q102 : Nat) (q103 : Nat) (q104 : Nat) (q105 : Nat) (cA106 : ClassId) (g_q100 : Nat → Int32) (cA107 : ClassId) (g_q102 : Nat → Int32) (q4 : Nat) (q5 : Nat) (q6 : Nat) (q7 : Nat) (q8 : Nat) (q9 : Nat) (q10 : Nat) (q11 : Nat) (q12 : Nat) (q13 : Nat) (q14 : Nat) (cA15 : ClassId) (g_q4 : Nat → Int32) (cA16 : ClassId) (g_q5 : Nat → Int32) (cA17 : ClassId) (g_q6 : Nat → Int32) (cA18 : ClassId) (g_q7 : Nat → Int32) (q21 : Nat) (q24 : Nat) (q25 : Nat) (q26 : Nat) (q27 : Nat) (q28 : Nat) (q29 : Nat) (cA30 : ClassId) (g_q24 : Nat → Int32) (q32 : Nat) (cO : ClassId) (go : Nat → Int64) : q_Met l ⟨"SignalTheatreLaw", "build", "(LSignalTheatre;[J)I"⟩ (Cond.codeWith ⟨"SignalTheatreLaw", "build", "(LSignalTheatre;[J)I"⟩ method_5_code 3 (some .int) [(0, 8, 11, 25)]) { frames := 11, cells := 1, slots := 6, locals := 151 } D q_cl [.ref h0, .ref o0] [(h0, .inr (0, [.ref q1, .int 0, .int 0, .ref q36, .ref q67, .ref q19, .ref q98, .ref q108])), (q1, .inl (cA2, 32768, .inl g_q1)), (q19, .inr (2, [.ref q3, .int 0, .int (-1), .int 0, .int 0, .int 0, .int 0])), (q67, .inr (6, [.ref q68, .ref q69, .ref q70, .int 0, .ref q71, .ref q72, .int 0, .int 0, .ref q73, .ref q74, .ref q75, .int 0, .ref q76, .ref q77, .ref q78, .int 0, .ref q79, .int 0, .ref q80, .ref q81])), (q68, .inl (cA82, 32768, .inl g_q68)), (q69, .inr (7, [.ref q83, .ref q84, .ref q85, .ref q86, .ref q87, .int 0, .ref q88, .ref q89, .int 0, .ref q90, .ref q91, .ref q92, .ref q93, .ref q94, .ref q95, .ref q96, .int 0, .ref q97, .int 0, .int 0])), (q98, .inr (9, [.ref q3, .ref q19, .ref q20, .ref q31, .null, .ref q99, .ref q100, .ref q101, .int 0, .ref q102, .int 0, .int 0, .ref q103, .ref q104, .ref q105, .int 0, .int 0, .int 0])), (q100, .inl (cA106, 1821, .inl g_q100)), (q102, .inl (cA107, 16385, .inl g_q102)), (q3, .inr (1, [.null, .int 0, .ref q4, .ref q5, .ref q6, .int 0, .ref q7, .ref q8, .ref q9, .ref q10, .ref q11, .int 0, .ref q12, .ref q13, .ref q14, .int 0, .long 0, .long 0, .int 0, .int 0])), (q4, .inl (cA15, 32769, .inl g_q4)), (q5, .inl (cA16, 32769, .inl g_q5)), (q6, .inl (cA17, 32769, .inl g_q6)), (q7, .inl (cA18, 1024, .inl g_q7)), (q20, .inr (3, [.ref q3, .ref q19, .ref q21, .null, .null, .int 0, .int 0, .int 0, .int 0, .int 0, .int 0, .ref q24, .ref q25, .ref q26, .ref q27, .ref q28, .ref q29, .int 0])), (q24, .inl (cA30, 16385, .inl g_q24)), (q31, .inr (5, [.ref q3, .ref q19, .ref q20, .ref q32, .int 0, .int 0, .int 0, .long 0, .long 0])), (o0, .inl (cO, 1, .inr (.inl go)))] [(cA2, .byte), (cA82, .byte), (cA106, .int), (cA107, .int), (cA15, .int), (cA16, .int), (cA17, .int), (cA18, .int), (cA30, .int), (cO, .long)] (fun r w ty => r = .inl (some (.int 1)) ∧ w = [(o0, .inl (cO, 1, .inr (.inl go)))] ∧ ty = [(cO, .long)]) := by
  refine q_ofWH (by decide) ?_
  intro p e s m below meth c C hr hex I
  have hx := C.1
  have hb := C.2.1
  have hl := lv_entry ([.ref h0, .ref o0]) (n := 3) (Nat.le_of_ble_eq_true rfl)
  rw [lg_entry_eq]
  generalize (lg_sl ([.ref h0, .ref o0]) ++ List.replicate (3 - (lg_sl ([.ref h0, .ref o0])).length) Slot.unset).toArray = ls at hl ⊢
  have hl : lv_has ls 3 [(0, .ref h0), (1, .ref o0)] := hl
  refine lv_aload_n hx hb d30_SignalTheatreLaw_build_0 rfl (lv_at hl 1 rfl) ?_
  refine lv_iconst (v := 0) hx hb d30_SignalTheatreLaw_build_1 (by decide) ?_
  refine lv_aload_n hx hb d30_SignalTheatreLaw_build_2 rfl (lv_at hl 0 rfl) ?_
  refine q_go (wr := [(o0, .inl (cO, 1, .inr (.inl go)))]) (tyr := [(cO, .long)]) C I (q_siteV (As := []) (rest := [.int 0, .ref o0]) (q0 := 0) C I rfl rfl m30_11 m30_13 m30_14 m30_12 ⟨by decide, by decide⟩ (Eq.trans (b := some 0) (by decide +kernel) rfl) rfl d30_SignalTheatreLaw_build_3) (c_S_build l D hl9 h0 q1 q36 q67 q19 q98 q108 cA2 g_q1 q3 q68 q69 q70 q71 q72 q73 q74 q75 q76 q77 q78 q79 q80 q81 cA82 g_q68 q83 q84 q85 q86 q87 q88 q89 q90 q91 q92 q93 q94 q95 q96 q97 q20 q31 q99 q100 q101 q102 q103 q104 q105 cA106 g_q100 cA107 g_q102 q4 q5 q6 q7 q8 q9 q10 q11 q12 q13 q14 cA15 g_q4 cA16 g_q5 cA17 g_q6 cA18 g_q7 q21 q24 q25 q26 q27 q28 q29 cA30 g_q24 q32) m30_12 m30_4 [0, 1, 2, 3, 4, 5, 6, 7, 8, 9, 10, 11, 12, 13, 14, 15, 16] [17] [0, 1, 2, 3, 4, 5, 6, 7, 8] [9] rfl rfl (by decide) (by decide) (by decide) rfl rfl hl.1 d30_SignalTheatreLaw_build_3 (Nat.le_of_ble_eq_true rfl) (Nat.le_of_ble_eq_true rfl) (Nat.le_of_ble_eq_true rfl) (Nat.le_of_ble_eq_true rfl) (fun v w ty H locs hp I => ?_) (fun E w ty H locs q ce hp I hce hcv hcl hX9 => ?_)
  · obtain ⟨-, -, hv⟩ := hp; cases hv
  obtain ⟨rfl, rfl, hv⟩ := hp
  cases hv
  have I : q_I D q_cl _ s [(o0, .inl (cO, 1, .inr (.inl go)))] [(cO, .long)] H _ := I
  refine q_catch C [] { startPc := 0, endPc := 8, handlerPc := 11, catchType := 25 } [] (q_tab1 hex) (fun z hz => nomatch hz) (by decide) (by decide) m30_15 m30_16 hce hcv hcl ?_
  show W _ _ _ _ _ _ _ _ _ _ _ _ _ _ _ (F0 m 11 ls [.ref q])
  refine lv_astore_n (lv' := [(2, .ref q), (0, .ref h0), (1, .ref o0)]) hx hb d30_SignalTheatreLaw_build_11 rfl hl (by decide) rfl (fun ls hl => ?_)
  refine lv_iconst (v := 1) hx hb d30_SignalTheatreLaw_build_12 (by decide) ?_
  have I : q_I D q_cl _ s [(o0, .inl (cO, 1, .inr (.inl go)))] [(cO, .long)] _ _ := q_pick I [0] [0] rfl (by decide) rfl
  exact q_iret C hr I ⟨rfl, rfl, rfl⟩ (Nat.le_of_ble_eq_true rfl) (Nat.le_of_ble_eq_true rfl) d30_SignalTheatreLaw_build_13
set_option maxHeartbeats 4000000 in
set_option maxRecDepth 100000 in
/-- the law's fault(..): it returns -/
theorem h_fault_ok (l : Launch) (D : va_G) (hl9 : l.stackTraces = false) (h0 : Nat) (p1 : Int32) (o0 : Nat) (s_input : Nat) (s_circuit : Nat) (s_spare : Nat) (s_faults : Nat) (s_builder : Nat) (s_stage : Nat) (f0 : Nat) (f3 : Int32) (f4 : Int32) (f5 : Int32) (f6 : Int32) (cO : ClassId) (go : Nat → Int64) (z : Int32) (ho : o_fault p1 = Sum.inl (some (.int z))) : q_Met l ⟨"SignalTheatreLaw", "fault", "(LSignalTheatre;I[J)I"⟩ (Cond.codeWith ⟨"SignalTheatreLaw", "fault", "(LSignalTheatre;I[J)I"⟩ method_6_code 4 (some .int) [(0, 9, 12, 19)]) { frames := 7, cells := 1, slots := 6, locals := 96 } D q_cl [.ref h0, .int p1, .ref o0] [(h0, .inr (0, [.ref s_input, .int 0, .int 0, .ref s_circuit, .ref s_spare, .ref s_faults, .ref s_builder, .ref s_stage])), (s_faults, .inr (2, [.ref f0, .int 0, .int (-1), .int f3, .int f4, .int f5, .int f6])), (o0, .inl (cO, 1, .inr (.inl go)))] [(cO, .long)] (fun r w ty => r = .inl (some (.int 0)) ∧ w = [(o0, .inl (cO, 1, .inr (.inl (vp_updL go 0 (z).toInt64))))] ∧ ty = [(cO, .long)]) := by
  refine q_ofWH (by decide) ?_
  intro p e s m below meth c C hr hex I
  have hx := C.1
  have hb := C.2.1
  have hl := lv_entry ([.ref h0, .int p1, .ref o0]) (n := 4) (Nat.le_of_ble_eq_true rfl)
  rw [lg_entry_eq]
  generalize (lg_sl ([.ref h0, .int p1, .ref o0]) ++ List.replicate (4 - (lg_sl ([.ref h0, .int p1, .ref o0])).length) Slot.unset).toArray = ls at hl ⊢
  have hl : lv_has ls 4 [(0, .ref h0), (1, .int p1), (2, .ref o0)] := hl
  refine lv_aload_n hx hb d30_SignalTheatreLaw_fault_0 rfl (lv_at hl 2 rfl) ?_
  refine lv_iconst (v := 0) hx hb d30_SignalTheatreLaw_fault_1 (by decide) ?_
  refine lv_aload_n hx hb d30_SignalTheatreLaw_fault_2 rfl (lv_at hl 0 rfl) ?_
  refine lv_iload_n hx hb d30_SignalTheatreLaw_fault_3 rfl (lv_at hl 1 rfl) ?_
  refine q_go (wr := [(o0, .inl (cO, 1, .inr (.inl go)))]) (tyr := [(cO, .long)]) C I (q_siteV (As := [.int p1]) (rest := [.int 0, .ref o0]) (q0 := 0) C I rfl rfl m30_17 m30_19 m30_20 m30_18 ⟨by decide, by decide⟩ (Eq.trans (b := some 1) (by decide +kernel) rfl) rfl d30_SignalTheatreLaw_fault_4) (c_S_fault l D hl9 h0 s_input s_circuit s_spare s_faults s_builder s_stage f0 f3 f4 f5 f6 p1) m30_18 m30_4 [0, 1] [2] [] [0] rfl rfl (by decide) (by decide) (by decide) rfl rfl hl.1 d30_SignalTheatreLaw_fault_4 (Nat.le_of_ble_eq_true rfl) (Nat.le_of_ble_eq_true rfl) (Nat.le_of_ble_eq_true rfl) (Nat.le_of_ble_eq_true rfl) (fun v w ty H locs hp I => ?_) (fun E w ty H locs q ce hp I hce hcv hcl hX9 => ?_)
  rotate_left
  · obtain ⟨-, -, hv⟩ := hp; rw [ho] at hv; cases hv
  obtain ⟨rfl, rfl, hv⟩ := hp
  rw [ho] at hv
  cases hv
  have I : q_I D q_cl _ s [(o0, .inl (cO, 1, .inr (.inl go)))] [(cO, .long)] H _ := I
  refine W.eq (g2 := F0 m 7 ls [.int z, .int 0, .ref o0]) rfl ?_
  refine lv_i2l hx hb d30_SignalTheatreLaw_fault_7 rfl ?_
  refine q_last C I 0 0 rfl rfl (by unfold vp_in; decide) d30_SignalTheatreLaw_fault_8 (fun H locs I => ?_)
  have I : q_I D q_cl _ s [(o0, .inl (cO, 1, .inr (.inl (vp_updL go 0 (z).toInt64))))] [(cO, .long)] H _ := I
  refine lv_goto (tgt := 15) hx hb d30_SignalTheatreLaw_fault_9 (by decide) ?_
  refine lv_iconst (v := 0) hx hb d30_SignalTheatreLaw_fault_15 (by decide) ?_
  have I : q_I D q_cl _ s [(o0, .inl (cO, 1, .inr (.inl (vp_updL go 0 (z).toInt64))))] [(cO, .long)] _ _ := q_pick I [0] [0] rfl (by decide) rfl
  exact q_iret C hr I ⟨rfl, rfl, rfl⟩ (Nat.le_of_ble_eq_true rfl) (Nat.le_of_ble_eq_true rfl) d30_SignalTheatreLaw_fault_16
set_option maxHeartbeats 4000000 in
set_option maxRecDepth 100000 in
/-- the law's fault(..): caught, 1 -/
theorem h_fault_ex1 (l : Launch) (D : va_G) (hl9 : l.stackTraces = false) (h0 : Nat) (p1 : Int32) (o0 : Nat) (s_input : Nat) (s_circuit : Nat) (s_spare : Nat) (s_faults : Nat) (s_builder : Nat) (s_stage : Nat) (f0 : Nat) (f3 : Int32) (f4 : Int32) (f5 : Int32) (f6 : Int32) (cO : ClassId) (go : Nat → Int64) (ho : o_fault p1 = Sum.inr "java/lang/IllegalArgumentException") : q_Met l ⟨"SignalTheatreLaw", "fault", "(LSignalTheatre;I[J)I"⟩ (Cond.codeWith ⟨"SignalTheatreLaw", "fault", "(LSignalTheatre;I[J)I"⟩ method_6_code 4 (some .int) [(0, 9, 12, 19)]) { frames := 7, cells := 1, slots := 6, locals := 96 } D q_cl [.ref h0, .int p1, .ref o0] [(h0, .inr (0, [.ref s_input, .int 0, .int 0, .ref s_circuit, .ref s_spare, .ref s_faults, .ref s_builder, .ref s_stage])), (s_faults, .inr (2, [.ref f0, .int 0, .int (-1), .int f3, .int f4, .int f5, .int f6])), (o0, .inl (cO, 1, .inr (.inl go)))] [(cO, .long)] (fun r w ty => r = .inl (some (.int 1)) ∧ w = [(o0, .inl (cO, 1, .inr (.inl go)))] ∧ ty = [(cO, .long)]) := by
  refine q_ofWH (by decide) ?_
  intro p e s m below meth c C hr hex I
  have hx := C.1
  have hb := C.2.1
  have hl := lv_entry ([.ref h0, .int p1, .ref o0]) (n := 4) (Nat.le_of_ble_eq_true rfl)
  rw [lg_entry_eq]
  generalize (lg_sl ([.ref h0, .int p1, .ref o0]) ++ List.replicate (4 - (lg_sl ([.ref h0, .int p1, .ref o0])).length) Slot.unset).toArray = ls at hl ⊢
  have hl : lv_has ls 4 [(0, .ref h0), (1, .int p1), (2, .ref o0)] := hl
  refine lv_aload_n hx hb d30_SignalTheatreLaw_fault_0 rfl (lv_at hl 2 rfl) ?_
  refine lv_iconst (v := 0) hx hb d30_SignalTheatreLaw_fault_1 (by decide) ?_
  refine lv_aload_n hx hb d30_SignalTheatreLaw_fault_2 rfl (lv_at hl 0 rfl) ?_
  refine lv_iload_n hx hb d30_SignalTheatreLaw_fault_3 rfl (lv_at hl 1 rfl) ?_
  refine q_go (wr := [(o0, .inl (cO, 1, .inr (.inl go)))]) (tyr := [(cO, .long)]) C I (q_siteV (As := [.int p1]) (rest := [.int 0, .ref o0]) (q0 := 0) C I rfl rfl m30_17 m30_19 m30_20 m30_18 ⟨by decide, by decide⟩ (Eq.trans (b := some 1) (by decide +kernel) rfl) rfl d30_SignalTheatreLaw_fault_4) (c_S_fault l D hl9 h0 s_input s_circuit s_spare s_faults s_builder s_stage f0 f3 f4 f5 f6 p1) m30_18 m30_4 [0, 1] [2] [] [0] rfl rfl (by decide) (by decide) (by decide) rfl rfl hl.1 d30_SignalTheatreLaw_fault_4 (Nat.le_of_ble_eq_true rfl) (Nat.le_of_ble_eq_true rfl) (Nat.le_of_ble_eq_true rfl) (Nat.le_of_ble_eq_true rfl) (fun v w ty H locs hp I => ?_) (fun E w ty H locs q ce hp I hce hcv hcl hX9 => ?_)
  · obtain ⟨-, -, hv⟩ := hp; rw [ho] at hv; cases hv
  obtain ⟨rfl, rfl, hv⟩ := hp
  rw [ho] at hv
  cases hv
  have I : q_I D q_cl _ s [(o0, .inl (cO, 1, .inr (.inl go)))] [(cO, .long)] H _ := I
  refine q_catch C [] { startPc := 0, endPc := 9, handlerPc := 12, catchType := 19 } [] (q_tab1 hex) (fun z hz => nomatch hz) (by decide) (by decide) m30_9 m30_10 hce hcv hcl ?_
  show W _ _ _ _ _ _ _ _ _ _ _ _ _ _ _ (F0 m 12 ls [.ref q])
  refine lv_astore_n (lv' := [(3, .ref q), (0, .ref h0), (1, .int p1), (2, .ref o0)]) hx hb d30_SignalTheatreLaw_fault_12 rfl hl (by decide) rfl (fun ls hl => ?_)
  refine lv_iconst (v := 1) hx hb d30_SignalTheatreLaw_fault_13 (by decide) ?_
  have I : q_I D q_cl _ s [(o0, .inl (cO, 1, .inr (.inl go)))] [(cO, .long)] _ _ := q_pick I [0] [0] rfl (by decide) rfl
  exact q_iret C hr I ⟨rfl, rfl, rfl⟩ (Nat.le_of_ble_eq_true rfl) (Nat.le_of_ble_eq_true rfl) d30_SignalTheatreLaw_fault_14
set_option maxHeartbeats 4000000 in
set_option maxRecDepth 100000 in
/-- the law's run(..): caught, 1 -/
theorem h_run_ex1 (l : Launch) (D : va_G) (hl9 : l.stackTraces = false) (h0 : Nat) (p1 : Int32) (o0 : Nat) (s_input : Nat) (s_circuit : Nat) (s_spare : Nat) (s_faults : Nat) (s_builder : Nat) (s_stage : Nat) (cO : ClassId) (go : Nat → Int64) (ho : o_run p1 = Sum.inr "java/lang/IllegalArgumentException") : q_Met l ⟨"SignalTheatreLaw", "run", "(LSignalTheatre;I[J)I"⟩ (Cond.codeWith ⟨"SignalTheatreLaw", "run", "(LSignalTheatre;I[J)I"⟩ method_7_code 4 (some .int) [(0, 9, 12, 19), (0, 9, 15, 25)]) { frames := 7, cells := 1, slots := 6, locals := 96 } D q_cl [.ref h0, .int p1, .ref o0] [(h0, .inr (0, [.ref s_input, .int 0, .int 0, .ref s_circuit, .ref s_spare, .ref s_faults, .ref s_builder, .ref s_stage])), (o0, .inl (cO, 1, .inr (.inl go)))] [(cO, .long)] (fun r w ty => r = .inl (some (.int 1)) ∧ w = [(o0, .inl (cO, 1, .inr (.inl go)))] ∧ ty = [(cO, .long)]) := by
  refine q_ofWH (by decide) ?_
  intro p e s m below meth c C hr hex I
  have hx := C.1
  have hb := C.2.1
  have hl := lv_entry ([.ref h0, .int p1, .ref o0]) (n := 4) (Nat.le_of_ble_eq_true rfl)
  rw [lg_entry_eq]
  generalize (lg_sl ([.ref h0, .int p1, .ref o0]) ++ List.replicate (4 - (lg_sl ([.ref h0, .int p1, .ref o0])).length) Slot.unset).toArray = ls at hl ⊢
  have hl : lv_has ls 4 [(0, .ref h0), (1, .int p1), (2, .ref o0)] := hl
  refine lv_aload_n hx hb d30_SignalTheatreLaw_run_0 rfl (lv_at hl 2 rfl) ?_
  refine lv_iconst (v := 0) hx hb d30_SignalTheatreLaw_run_1 (by decide) ?_
  refine lv_aload_n hx hb d30_SignalTheatreLaw_run_2 rfl (lv_at hl 0 rfl) ?_
  refine lv_iload_n hx hb d30_SignalTheatreLaw_run_3 rfl (lv_at hl 1 rfl) ?_
  refine q_go (wr := [(o0, .inl (cO, 1, .inr (.inl go)))]) (tyr := [(cO, .long)]) C I (q_siteV (As := [.int p1]) (rest := [.int 0, .ref o0]) (q0 := 0) C I rfl rfl m30_21 m30_23 m30_24 m30_22 ⟨by decide, by decide⟩ (Eq.trans (b := some 1) (by decide +kernel) rfl) rfl d30_SignalTheatreLaw_run_4) (c_S_run l D hl9 h0 s_input s_circuit s_spare s_faults s_builder s_stage p1) m30_22 m30_4 [0] [1] [] [0] rfl rfl (by decide) (by decide) (by decide) rfl rfl hl.1 d30_SignalTheatreLaw_run_4 (Nat.le_of_ble_eq_true rfl) (Nat.le_of_ble_eq_true rfl) (Nat.le_of_ble_eq_true rfl) (Nat.le_of_ble_eq_true rfl) (fun v w ty H locs hp I => ?_) (fun E w ty H locs q ce hp I hce hcv hcl hX9 => ?_)
  · obtain ⟨-, -, hv⟩ := hp; rw [ho] at hv; cases hv
  obtain ⟨rfl, rfl, hv⟩ := hp
  rw [ho] at hv
  cases hv
  have I : q_I D q_cl _ s [(o0, .inl (cO, 1, .inr (.inl go)))] [(cO, .long)] H _ := I
  refine q_catch C [] { startPc := 0, endPc := 9, handlerPc := 12, catchType := 19 } [{ startPc := 0, endPc := 9, handlerPc := 15, catchType := 25 }] (q_tab2 hex) (fun z hz => nomatch hz) (by decide) (by decide) m30_9 m30_10 hce hcv hcl ?_
  show W _ _ _ _ _ _ _ _ _ _ _ _ _ _ _ (F0 m 12 ls [.ref q])
  refine lv_astore_n (lv' := [(3, .ref q), (0, .ref h0), (1, .int p1), (2, .ref o0)]) hx hb d30_SignalTheatreLaw_run_12 rfl hl (by decide) rfl (fun ls hl => ?_)
  refine lv_iconst (v := 1) hx hb d30_SignalTheatreLaw_run_13 (by decide) ?_
  have I : q_I D q_cl _ s [(o0, .inl (cO, 1, .inr (.inl go)))] [(cO, .long)] _ _ := q_pick I [0] [0] rfl (by decide) rfl
  exact q_iret C hr I ⟨rfl, rfl, rfl⟩ (Nat.le_of_ble_eq_true rfl) (Nat.le_of_ble_eq_true rfl) d30_SignalTheatreLaw_run_14
set_option maxHeartbeats 4000000 in
set_option maxRecDepth 100000 in
/-- the law's run(..): caught, 2 -/
theorem h_run_ex2 (l : Launch) (D : va_G) (hl9 : l.stackTraces = false) (h0 : Nat) (p1 : Int32) (o0 : Nat) (s_input : Nat) (s_circuit : Nat) (s_spare : Nat) (s_faults : Nat) (s_builder : Nat) (s_stage : Nat) (cO : ClassId) (go : Nat → Int64) (ho : o_run p1 = Sum.inr "java/lang/IllegalStateException") : q_Met l ⟨"SignalTheatreLaw", "run", "(LSignalTheatre;I[J)I"⟩ (Cond.codeWith ⟨"SignalTheatreLaw", "run", "(LSignalTheatre;I[J)I"⟩ method_7_code 4 (some .int) [(0, 9, 12, 19), (0, 9, 15, 25)]) { frames := 7, cells := 1, slots := 6, locals := 96 } D q_cl [.ref h0, .int p1, .ref o0] [(h0, .inr (0, [.ref s_input, .int 0, .int 0, .ref s_circuit, .ref s_spare, .ref s_faults, .ref s_builder, .ref s_stage])), (o0, .inl (cO, 1, .inr (.inl go)))] [(cO, .long)] (fun r w ty => r = .inl (some (.int 2)) ∧ w = [(o0, .inl (cO, 1, .inr (.inl go)))] ∧ ty = [(cO, .long)]) := by
  refine q_ofWH (by decide) ?_
  intro p e s m below meth c C hr hex I
  have hx := C.1
  have hb := C.2.1
  have hl := lv_entry ([.ref h0, .int p1, .ref o0]) (n := 4) (Nat.le_of_ble_eq_true rfl)
  rw [lg_entry_eq]
  generalize (lg_sl ([.ref h0, .int p1, .ref o0]) ++ List.replicate (4 - (lg_sl ([.ref h0, .int p1, .ref o0])).length) Slot.unset).toArray = ls at hl ⊢
  have hl : lv_has ls 4 [(0, .ref h0), (1, .int p1), (2, .ref o0)] := hl
  refine lv_aload_n hx hb d30_SignalTheatreLaw_run_0 rfl (lv_at hl 2 rfl) ?_
  refine lv_iconst (v := 0) hx hb d30_SignalTheatreLaw_run_1 (by decide) ?_
  refine lv_aload_n hx hb d30_SignalTheatreLaw_run_2 rfl (lv_at hl 0 rfl) ?_
  refine lv_iload_n hx hb d30_SignalTheatreLaw_run_3 rfl (lv_at hl 1 rfl) ?_
  refine q_go (wr := [(o0, .inl (cO, 1, .inr (.inl go)))]) (tyr := [(cO, .long)]) C I (q_siteV (As := [.int p1]) (rest := [.int 0, .ref o0]) (q0 := 0) C I rfl rfl m30_21 m30_23 m30_24 m30_22 ⟨by decide, by decide⟩ (Eq.trans (b := some 1) (by decide +kernel) rfl) rfl d30_SignalTheatreLaw_run_4) (c_S_run l D hl9 h0 s_input s_circuit s_spare s_faults s_builder s_stage p1) m30_22 m30_4 [0] [1] [] [0] rfl rfl (by decide) (by decide) (by decide) rfl rfl hl.1 d30_SignalTheatreLaw_run_4 (Nat.le_of_ble_eq_true rfl) (Nat.le_of_ble_eq_true rfl) (Nat.le_of_ble_eq_true rfl) (Nat.le_of_ble_eq_true rfl) (fun v w ty H locs hp I => ?_) (fun E w ty H locs q ce hp I hce hcv hcl hX9 => ?_)
  · obtain ⟨-, -, hv⟩ := hp; rw [ho] at hv; cases hv
  obtain ⟨rfl, rfl, hv⟩ := hp
  rw [ho] at hv
  cases hv
  have I : q_I D q_cl _ s [(o0, .inl (cO, 1, .inr (.inl go)))] [(cO, .long)] H _ := I
  refine q_catch C [{ startPc := 0, endPc := 9, handlerPc := 12, catchType := 19 }] { startPc := 0, endPc := 9, handlerPc := 15, catchType := 25 } [] (q_tab2 hex) (fun z hz => by obtain rfl := List.mem_singleton.mp hz; exact Or.inr ⟨by decide, "java/lang/IllegalArgumentException", m30_9, List.mem_of_getElem? (i := 0) rfl⟩) (by decide) (by decide) m30_15 m30_16 hce hcv hcl ?_
  show W _ _ _ _ _ _ _ _ _ _ _ _ _ _ _ (F0 m 15 ls [.ref q])
  refine lv_astore_n (lv' := [(3, .ref q), (0, .ref h0), (1, .int p1), (2, .ref o0)]) hx hb d30_SignalTheatreLaw_run_15 rfl hl (by decide) rfl (fun ls hl => ?_)
  refine lv_iconst (v := 2) hx hb d30_SignalTheatreLaw_run_16 (by decide) ?_
  have I : q_I D q_cl _ s [(o0, .inl (cO, 1, .inr (.inl go)))] [(cO, .long)] _ _ := q_pick I [0] [0] rfl (by decide) rfl
  exact q_iret C hr I ⟨rfl, rfl, rfl⟩ (Nat.le_of_ble_eq_true rfl) (Nat.le_of_ble_eq_true rfl) d30_SignalTheatreLaw_run_17
set_option maxHeartbeats 4000000 in
set_option maxRecDepth 100000 in
/-- the law's value(..): caught, 1 -/
theorem h_value_ex1 (l : Launch) (D : va_G) (hl9 : l.stackTraces = false) (h0 : Nat) (p1 : Int32) (p2 : Int32) (p3 : Int32) (o0 : Nat) (s_input : Nat) (s_circuit : Nat) (s_spare : Nat) (s_faults : Nat) (s_builder : Nat) (s_stage : Nat) (cO : ClassId) (go : Nat → Int64) (ho : o_value p3 = Sum.inr "java/lang/IllegalArgumentException") : q_Met l ⟨"SignalTheatreLaw", "value", "(LSignalTheatre;III[J)I"⟩ (Cond.codeWith ⟨"SignalTheatreLaw", "value", "(LSignalTheatre;III[J)I"⟩ method_8_code 6 (some .int) [(0, 11, 14, 19), (0, 11, 18, 37)]) { frames := 7, cells := 1, slots := 6, locals := 99 } D q_cl [.ref h0, .int p1, .int p2, .int p3, .ref o0] [(h0, .inr (0, [.ref s_input, .int 0, .int 0, .ref s_circuit, .ref s_spare, .ref s_faults, .ref s_builder, .ref s_stage])), (o0, .inl (cO, 1, .inr (.inl go)))] [(cO, .long)] (fun r w ty => r = .inl (some (.int 1)) ∧ w = [(o0, .inl (cO, 1, .inr (.inl go)))] ∧ ty = [(cO, .long)]) := by
  refine q_ofWH (by decide) ?_
  intro p e s m below meth c C hr hex I
  have hx := C.1
  have hb := C.2.1
  have hl := lv_entry ([.ref h0, .int p1, .int p2, .int p3, .ref o0]) (n := 6) (Nat.le_of_ble_eq_true rfl)
  rw [lg_entry_eq]
  generalize (lg_sl ([.ref h0, .int p1, .int p2, .int p3, .ref o0]) ++ List.replicate (6 - (lg_sl ([.ref h0, .int p1, .int p2, .int p3, .ref o0])).length) Slot.unset).toArray = ls at hl ⊢
  have hl : lv_has ls 6 [(0, .ref h0), (1, .int p1), (2, .int p2), (3, .int p3), (4, .ref o0)] := hl
  refine lv_aload hx hb d30_SignalTheatreLaw_value_0 (lv_at hl 4 rfl) ?_
  refine lv_iconst (v := 0) hx hb d30_SignalTheatreLaw_value_2 (by decide) ?_
  refine lv_aload_n hx hb d30_SignalTheatreLaw_value_3 rfl (lv_at hl 0 rfl) ?_
  refine lv_iload_n hx hb d30_SignalTheatreLaw_value_4 rfl (lv_at hl 1 rfl) ?_
  refine lv_iload_n hx hb d30_SignalTheatreLaw_value_5 rfl (lv_at hl 2 rfl) ?_
  refine lv_iload_n hx hb d30_SignalTheatreLaw_value_6 rfl (lv_at hl 3 rfl) ?_
  refine q_go (wr := [(o0, .inl (cO, 1, .inr (.inl go)))]) (tyr := [(cO, .long)]) C I (q_siteV (As := [.int p1, .int p2, .int p3]) (rest := [.int 0, .ref o0]) (q0 := 0) C I rfl rfl m30_25 m30_27 m30_28 m30_26 ⟨by decide, by decide⟩ (Eq.trans (b := some 3) (by decide +kernel) rfl) rfl d30_SignalTheatreLaw_value_7) (c_S_value l D hl9 h0 s_input s_circuit s_spare s_faults s_builder s_stage p1 p2 p3) m30_26 m30_4 [0] [1] [] [0] rfl rfl (by decide) (by decide) (by decide) rfl rfl hl.1 d30_SignalTheatreLaw_value_7 (Nat.le_of_ble_eq_true rfl) (Nat.le_of_ble_eq_true rfl) (Nat.le_of_ble_eq_true rfl) (Nat.le_of_ble_eq_true rfl) (fun v w ty H locs hp I => ?_) (fun E w ty H locs q ce hp I hce hcv hcl hX9 => ?_)
  · obtain ⟨-, -, hv⟩ := hp; rw [ho] at hv; cases hv
  obtain ⟨rfl, rfl, hv⟩ := hp
  rw [ho] at hv
  cases hv
  have I : q_I D q_cl _ s [(o0, .inl (cO, 1, .inr (.inl go)))] [(cO, .long)] H _ := I
  refine q_catch C [] { startPc := 0, endPc := 11, handlerPc := 14, catchType := 19 } [{ startPc := 0, endPc := 11, handlerPc := 18, catchType := 37 }] (q_tab2 hex) (fun z hz => nomatch hz) (by decide) (by decide) m30_9 m30_10 hce hcv hcl ?_
  show W _ _ _ _ _ _ _ _ _ _ _ _ _ _ _ (F0 m 14 ls [.ref q])
  refine lv_astore (lv' := [(5, .ref q), (0, .ref h0), (1, .int p1), (2, .int p2), (3, .int p3), (4, .ref o0)]) hx hb d30_SignalTheatreLaw_value_14 hl (by decide) rfl (fun ls hl => ?_)
  refine lv_iconst (v := 1) hx hb d30_SignalTheatreLaw_value_16 (by decide) ?_
  have I : q_I D q_cl _ s [(o0, .inl (cO, 1, .inr (.inl go)))] [(cO, .long)] _ _ := q_pick I [0] [0] rfl (by decide) rfl
  exact q_iret C hr I ⟨rfl, rfl, rfl⟩ (Nat.le_of_ble_eq_true rfl) (Nat.le_of_ble_eq_true rfl) d30_SignalTheatreLaw_value_17
set_option maxHeartbeats 4000000 in
set_option maxRecDepth 100000 in
/-- the law's value(..): caught, 2 -/
theorem h_value_ex2 (l : Launch) (D : va_G) (hl9 : l.stackTraces = false) (h0 : Nat) (p1 : Int32) (p2 : Int32) (p3 : Int32) (o0 : Nat) (s_input : Nat) (s_circuit : Nat) (s_spare : Nat) (s_faults : Nat) (s_builder : Nat) (s_stage : Nat) (cO : ClassId) (go : Nat → Int64) (ho : o_value p3 = Sum.inr "java/util/NoSuchElementException") : q_Met l ⟨"SignalTheatreLaw", "value", "(LSignalTheatre;III[J)I"⟩ (Cond.codeWith ⟨"SignalTheatreLaw", "value", "(LSignalTheatre;III[J)I"⟩ method_8_code 6 (some .int) [(0, 11, 14, 19), (0, 11, 18, 37)]) { frames := 7, cells := 1, slots := 6, locals := 99 } D q_cl [.ref h0, .int p1, .int p2, .int p3, .ref o0] [(h0, .inr (0, [.ref s_input, .int 0, .int 0, .ref s_circuit, .ref s_spare, .ref s_faults, .ref s_builder, .ref s_stage])), (o0, .inl (cO, 1, .inr (.inl go)))] [(cO, .long)] (fun r w ty => r = .inl (some (.int 2)) ∧ w = [(o0, .inl (cO, 1, .inr (.inl go)))] ∧ ty = [(cO, .long)]) := by
  refine q_ofWH (by decide) ?_
  intro p e s m below meth c C hr hex I
  have hx := C.1
  have hb := C.2.1
  have hl := lv_entry ([.ref h0, .int p1, .int p2, .int p3, .ref o0]) (n := 6) (Nat.le_of_ble_eq_true rfl)
  rw [lg_entry_eq]
  generalize (lg_sl ([.ref h0, .int p1, .int p2, .int p3, .ref o0]) ++ List.replicate (6 - (lg_sl ([.ref h0, .int p1, .int p2, .int p3, .ref o0])).length) Slot.unset).toArray = ls at hl ⊢
  have hl : lv_has ls 6 [(0, .ref h0), (1, .int p1), (2, .int p2), (3, .int p3), (4, .ref o0)] := hl
  refine lv_aload hx hb d30_SignalTheatreLaw_value_0 (lv_at hl 4 rfl) ?_
  refine lv_iconst (v := 0) hx hb d30_SignalTheatreLaw_value_2 (by decide) ?_
  refine lv_aload_n hx hb d30_SignalTheatreLaw_value_3 rfl (lv_at hl 0 rfl) ?_
  refine lv_iload_n hx hb d30_SignalTheatreLaw_value_4 rfl (lv_at hl 1 rfl) ?_
  refine lv_iload_n hx hb d30_SignalTheatreLaw_value_5 rfl (lv_at hl 2 rfl) ?_
  refine lv_iload_n hx hb d30_SignalTheatreLaw_value_6 rfl (lv_at hl 3 rfl) ?_
  refine q_go (wr := [(o0, .inl (cO, 1, .inr (.inl go)))]) (tyr := [(cO, .long)]) C I (q_siteV (As := [.int p1, .int p2, .int p3]) (rest := [.int 0, .ref o0]) (q0 := 0) C I rfl rfl m30_25 m30_27 m30_28 m30_26 ⟨by decide, by decide⟩ (Eq.trans (b := some 3) (by decide +kernel) rfl) rfl d30_SignalTheatreLaw_value_7) (c_S_value l D hl9 h0 s_input s_circuit s_spare s_faults s_builder s_stage p1 p2 p3) m30_26 m30_4 [0] [1] [] [0] rfl rfl (by decide) (by decide) (by decide) rfl rfl hl.1 d30_SignalTheatreLaw_value_7 (Nat.le_of_ble_eq_true rfl) (Nat.le_of_ble_eq_true rfl) (Nat.le_of_ble_eq_true rfl) (Nat.le_of_ble_eq_true rfl) (fun v w ty H locs hp I => ?_) (fun E w ty H locs q ce hp I hce hcv hcl hX9 => ?_)
  · obtain ⟨-, -, hv⟩ := hp; rw [ho] at hv; cases hv
  obtain ⟨rfl, rfl, hv⟩ := hp
  rw [ho] at hv
  cases hv
  have I : q_I D q_cl _ s [(o0, .inl (cO, 1, .inr (.inl go)))] [(cO, .long)] H _ := I
  refine q_catch C [{ startPc := 0, endPc := 11, handlerPc := 14, catchType := 19 }] { startPc := 0, endPc := 11, handlerPc := 18, catchType := 37 } [] (q_tab2 hex) (fun z hz => by obtain rfl := List.mem_singleton.mp hz; exact Or.inr ⟨by decide, "java/lang/IllegalArgumentException", m30_9, List.mem_of_getElem? (i := 1) rfl⟩) (by decide) (by decide) m30_29 m30_30 hce hcv hcl ?_
  show W _ _ _ _ _ _ _ _ _ _ _ _ _ _ _ (F0 m 18 ls [.ref q])
  refine lv_astore (lv' := [(5, .ref q), (0, .ref h0), (1, .int p1), (2, .int p2), (3, .int p3), (4, .ref o0)]) hx hb d30_SignalTheatreLaw_value_18 hl (by decide) rfl (fun ls hl => ?_)
  refine lv_iconst (v := 2) hx hb d30_SignalTheatreLaw_value_20 (by decide) ?_
  have I : q_I D q_cl _ s [(o0, .inl (cO, 1, .inr (.inl go)))] [(cO, .long)] _ _ := q_pick I [0] [0] rfl (by decide) rfl
  exact q_iret C hr I ⟨rfl, rfl, rfl⟩ (Nat.le_of_ble_eq_true rfl) (Nat.le_of_ble_eq_true rfl) d30_SignalTheatreLaw_value_21
set_option maxHeartbeats 4000000 in
set_option maxRecDepth 100000 in
/-- the law's set(..): caught, 1 -/
theorem h_set_ex1 (l : Launch) (D : va_G) (hl9 : l.stackTraces = false) (h0 : Nat) (p1 : Int32) (p2 : Int32) (y3 : Int64) (y4 : Int64) (s_input : Nat) (s_circuit : Nat) (s_spare : Nat) (s_faults : Nat) (s_builder : Nat) (s_stage : Nat) : q_Met l ⟨"SignalTheatreLaw", "set", "(LSignalTheatre;IIJJ)I"⟩ (Cond.codeWith ⟨"SignalTheatreLaw", "set", "(LSignalTheatre;IIJJ)I"⟩ method_9_code 8 (some .int) [(0, 9, 12, 37)]) { frames := 7, cells := 1, slots := 6, locals := 99 } D q_cl [.ref h0, .int p1, .int p2, .long y3, .long y4] [(h0, .inr (0, [.ref s_input, .int 0, .int 0, .ref s_circuit, .ref s_spare, .ref s_faults, .ref s_builder, .ref s_stage]))] [] (fun r w ty => r = .inl (some (.int 1)) ∧ w = [] ∧ ty = []) := by
  refine q_ofWH (by decide) ?_
  intro p e s m below meth c C hr hex I
  have hx := C.1
  have hb := C.2.1
  have hl := lv_entry ([.ref h0, .int p1, .int p2, .long y3, .long y4]) (n := 8) (Nat.le_of_ble_eq_true rfl)
  rw [lg_entry_eq]
  generalize (lg_sl ([.ref h0, .int p1, .int p2, .long y3, .long y4]) ++ List.replicate (8 - (lg_sl ([.ref h0, .int p1, .int p2, .long y3, .long y4])).length) Slot.unset).toArray = ls at hl ⊢
  have hl : lv_has ls 8 [(0, .ref h0), (1, .int p1), (2, .int p2), (3, .long y3), (5, .long y4)] := hl
  refine lv_aload_n hx hb d30_SignalTheatreLaw_set_0 rfl (lv_at hl 0 rfl) ?_
  refine lv_iload_n hx hb d30_SignalTheatreLaw_set_1 rfl (lv_at hl 1 rfl) ?_
  refine lv_iload_n hx hb d30_SignalTheatreLaw_set_2 rfl (lv_at hl 2 rfl) ?_
  refine lv_lload_n hx hb d30_SignalTheatreLaw_set_3 rfl (lv_at hl 3 rfl) ?_
  refine lv_lload hx hb d30_SignalTheatreLaw_set_4 (lv_at hl 4 rfl) ?_
  refine q_go (wr := []) (tyr := []) C I (q_siteV (As := [.int p1, .int p2, .long y3, .long y4]) (rest := []) (q0 := 0) C I rfl rfl m30_31 m30_33 m30_34 m30_32 ⟨by decide, by decide⟩ (Eq.trans (b := some 4) (by decide +kernel) rfl) rfl d30_SignalTheatreLaw_set_6) (c_S_set l D hl9 h0 s_input s_circuit s_spare s_faults s_builder s_stage p1 p2 y3 y4) m30_32 m30_4 [0] [] [] [] rfl rfl (by decide) (by decide) (by decide) rfl rfl hl.1 d30_SignalTheatreLaw_set_6 (Nat.le_of_ble_eq_true rfl) (Nat.le_of_ble_eq_true rfl) (Nat.le_of_ble_eq_true rfl) (Nat.le_of_ble_eq_true rfl) (fun v w ty H locs hp I => ?_) (fun E w ty H locs q ce hp I hce hcv hcl hX9 => ?_)
  · obtain ⟨-, -, hv⟩ := hp; cases hv
  obtain ⟨rfl, rfl, hv⟩ := hp
  cases hv
  have I : q_I D q_cl _ s [] [] H _ := I
  refine q_catch C [] { startPc := 0, endPc := 9, handlerPc := 12, catchType := 37 } [] (q_tab1 hex) (fun z hz => nomatch hz) (by decide) (by decide) m30_29 m30_30 hce hcv hcl ?_
  show W _ _ _ _ _ _ _ _ _ _ _ _ _ _ _ (F0 m 12 ls [.ref q])
  refine lv_astore (lv' := [(7, .ref q), (0, .ref h0), (1, .int p1), (2, .int p2), (3, .long y3), (5, .long y4)]) hx hb d30_SignalTheatreLaw_set_12 hl (by decide) rfl (fun ls hl => ?_)
  refine lv_iconst (v := 1) hx hb d30_SignalTheatreLaw_set_14 (by decide) ?_
  have I : q_I D q_cl _ s [] [] _ _ := q_pick I [] [] rfl (by decide) rfl
  exact q_iret C hr I ⟨rfl, rfl, rfl⟩ (Nat.le_of_ble_eq_true rfl) (Nat.le_of_ble_eq_true rfl) d30_SignalTheatreLaw_set_15
set_option maxHeartbeats 4000000 in
set_option maxRecDepth 100000 in
/-- the law's told(..): caught, 1 -/
theorem h_told_ex1 (l : Launch) (D : va_G) (hl9 : l.stackTraces = false) (h0 : Nat) (p1 : Int32) (p2 : Int32) (o0 : Nat) (s_input : Nat) (s_circuit : Nat) (s_spare : Nat) (s_faults : Nat) (s_builder : Nat) (s_stage : Nat) (cO : ClassId) (go : Nat → Int64) (ho : o_told p2 = Sum.inr "java/lang/IllegalArgumentException") : q_Met l ⟨"SignalTheatreLaw", "told", "(LSignalTheatre;II[J)I"⟩ (Cond.codeWith ⟨"SignalTheatreLaw", "told", "(LSignalTheatre;II[J)I"⟩ method_10_code 5 (some .int) [(0, 10, 13, 19), (0, 10, 17, 37)]) { frames := 7, cells := 1, slots := 6, locals := 98 } D q_cl [.ref h0, .int p1, .int p2, .ref o0] [(h0, .inr (0, [.ref s_input, .int 0, .int 0, .ref s_circuit, .ref s_spare, .ref s_faults, .ref s_builder, .ref s_stage])), (o0, .inl (cO, 1, .inr (.inl go)))] [(cO, .long)] (fun r w ty => r = .inl (some (.int 1)) ∧ w = [(o0, .inl (cO, 1, .inr (.inl go)))] ∧ ty = [(cO, .long)]) := by
  refine q_ofWH (by decide) ?_
  intro p e s m below meth c C hr hex I
  have hx := C.1
  have hb := C.2.1
  have hl := lv_entry ([.ref h0, .int p1, .int p2, .ref o0]) (n := 5) (Nat.le_of_ble_eq_true rfl)
  rw [lg_entry_eq]
  generalize (lg_sl ([.ref h0, .int p1, .int p2, .ref o0]) ++ List.replicate (5 - (lg_sl ([.ref h0, .int p1, .int p2, .ref o0])).length) Slot.unset).toArray = ls at hl ⊢
  have hl : lv_has ls 5 [(0, .ref h0), (1, .int p1), (2, .int p2), (3, .ref o0)] := hl
  refine lv_aload_n hx hb d30_SignalTheatreLaw_told_0 rfl (lv_at hl 3 rfl) ?_
  refine lv_iconst (v := 0) hx hb d30_SignalTheatreLaw_told_1 (by decide) ?_
  refine lv_aload_n hx hb d30_SignalTheatreLaw_told_2 rfl (lv_at hl 0 rfl) ?_
  refine lv_iload_n hx hb d30_SignalTheatreLaw_told_3 rfl (lv_at hl 1 rfl) ?_
  refine lv_iload_n hx hb d30_SignalTheatreLaw_told_4 rfl (lv_at hl 2 rfl) ?_
  refine q_go (wr := [(o0, .inl (cO, 1, .inr (.inl go)))]) (tyr := [(cO, .long)]) C I (q_siteV (As := [.int p1, .int p2]) (rest := [.int 0, .ref o0]) (q0 := 0) C I rfl rfl m30_35 m30_37 m30_38 m30_36 ⟨by decide, by decide⟩ (Eq.trans (b := some 2) (by decide +kernel) rfl) rfl d30_SignalTheatreLaw_told_5) (c_S_told l D hl9 h0 s_input s_circuit s_spare s_faults s_builder s_stage p1 p2) m30_36 m30_4 [0] [1] [] [0] rfl rfl (by decide) (by decide) (by decide) rfl rfl hl.1 d30_SignalTheatreLaw_told_5 (Nat.le_of_ble_eq_true rfl) (Nat.le_of_ble_eq_true rfl) (Nat.le_of_ble_eq_true rfl) (Nat.le_of_ble_eq_true rfl) (fun v w ty H locs hp I => ?_) (fun E w ty H locs q ce hp I hce hcv hcl hX9 => ?_)
  · obtain ⟨-, -, hv⟩ := hp; rw [ho] at hv; cases hv
  obtain ⟨rfl, rfl, hv⟩ := hp
  rw [ho] at hv
  cases hv
  have I : q_I D q_cl _ s [(o0, .inl (cO, 1, .inr (.inl go)))] [(cO, .long)] H _ := I
  refine q_catch C [] { startPc := 0, endPc := 10, handlerPc := 13, catchType := 19 } [{ startPc := 0, endPc := 10, handlerPc := 17, catchType := 37 }] (q_tab2 hex) (fun z hz => nomatch hz) (by decide) (by decide) m30_9 m30_10 hce hcv hcl ?_
  show W _ _ _ _ _ _ _ _ _ _ _ _ _ _ _ (F0 m 13 ls [.ref q])
  refine lv_astore (lv' := [(4, .ref q), (0, .ref h0), (1, .int p1), (2, .int p2), (3, .ref o0)]) hx hb d30_SignalTheatreLaw_told_13 hl (by decide) rfl (fun ls hl => ?_)
  refine lv_iconst (v := 1) hx hb d30_SignalTheatreLaw_told_15 (by decide) ?_
  have I : q_I D q_cl _ s [(o0, .inl (cO, 1, .inr (.inl go)))] [(cO, .long)] _ _ := q_pick I [0] [0] rfl (by decide) rfl
  exact q_iret C hr I ⟨rfl, rfl, rfl⟩ (Nat.le_of_ble_eq_true rfl) (Nat.le_of_ble_eq_true rfl) d30_SignalTheatreLaw_told_16
set_option maxHeartbeats 4000000 in
set_option maxRecDepth 100000 in
/-- the law's told(..): caught, 2 -/
theorem h_told_ex2 (l : Launch) (D : va_G) (hl9 : l.stackTraces = false) (h0 : Nat) (p1 : Int32) (p2 : Int32) (o0 : Nat) (s_input : Nat) (s_circuit : Nat) (s_spare : Nat) (s_faults : Nat) (s_builder : Nat) (s_stage : Nat) (cO : ClassId) (go : Nat → Int64) (ho : o_told p2 = Sum.inr "java/util/NoSuchElementException") : q_Met l ⟨"SignalTheatreLaw", "told", "(LSignalTheatre;II[J)I"⟩ (Cond.codeWith ⟨"SignalTheatreLaw", "told", "(LSignalTheatre;II[J)I"⟩ method_10_code 5 (some .int) [(0, 10, 13, 19), (0, 10, 17, 37)]) { frames := 7, cells := 1, slots := 6, locals := 98 } D q_cl [.ref h0, .int p1, .int p2, .ref o0] [(h0, .inr (0, [.ref s_input, .int 0, .int 0, .ref s_circuit, .ref s_spare, .ref s_faults, .ref s_builder, .ref s_stage])), (o0, .inl (cO, 1, .inr (.inl go)))] [(cO, .long)] (fun r w ty => r = .inl (some (.int 2)) ∧ w = [(o0, .inl (cO, 1, .inr (.inl go)))] ∧ ty = [(cO, .long)]) := by
  refine q_ofWH (by decide) ?_
  intro p e s m below meth c C hr hex I
  have hx := C.1
  have hb := C.2.1
  have hl := lv_entry ([.ref h0, .int p1, .int p2, .ref o0]) (n := 5) (Nat.le_of_ble_eq_true rfl)
  rw [lg_entry_eq]
  generalize (lg_sl ([.ref h0, .int p1, .int p2, .ref o0]) ++ List.replicate (5 - (lg_sl ([.ref h0, .int p1, .int p2, .ref o0])).length) Slot.unset).toArray = ls at hl ⊢
  have hl : lv_has ls 5 [(0, .ref h0), (1, .int p1), (2, .int p2), (3, .ref o0)] := hl
  refine lv_aload_n hx hb d30_SignalTheatreLaw_told_0 rfl (lv_at hl 3 rfl) ?_
  refine lv_iconst (v := 0) hx hb d30_SignalTheatreLaw_told_1 (by decide) ?_
  refine lv_aload_n hx hb d30_SignalTheatreLaw_told_2 rfl (lv_at hl 0 rfl) ?_
  refine lv_iload_n hx hb d30_SignalTheatreLaw_told_3 rfl (lv_at hl 1 rfl) ?_
  refine lv_iload_n hx hb d30_SignalTheatreLaw_told_4 rfl (lv_at hl 2 rfl) ?_
  refine q_go (wr := [(o0, .inl (cO, 1, .inr (.inl go)))]) (tyr := [(cO, .long)]) C I (q_siteV (As := [.int p1, .int p2]) (rest := [.int 0, .ref o0]) (q0 := 0) C I rfl rfl m30_35 m30_37 m30_38 m30_36 ⟨by decide, by decide⟩ (Eq.trans (b := some 2) (by decide +kernel) rfl) rfl d30_SignalTheatreLaw_told_5) (c_S_told l D hl9 h0 s_input s_circuit s_spare s_faults s_builder s_stage p1 p2) m30_36 m30_4 [0] [1] [] [0] rfl rfl (by decide) (by decide) (by decide) rfl rfl hl.1 d30_SignalTheatreLaw_told_5 (Nat.le_of_ble_eq_true rfl) (Nat.le_of_ble_eq_true rfl) (Nat.le_of_ble_eq_true rfl) (Nat.le_of_ble_eq_true rfl) (fun v w ty H locs hp I => ?_) (fun E w ty H locs q ce hp I hce hcv hcl hX9 => ?_)
  · obtain ⟨-, -, hv⟩ := hp; rw [ho] at hv; cases hv
  obtain ⟨rfl, rfl, hv⟩ := hp
  rw [ho] at hv
  cases hv
  have I : q_I D q_cl _ s [(o0, .inl (cO, 1, .inr (.inl go)))] [(cO, .long)] H _ := I
  refine q_catch C [{ startPc := 0, endPc := 10, handlerPc := 13, catchType := 19 }] { startPc := 0, endPc := 10, handlerPc := 17, catchType := 37 } [] (q_tab2 hex) (fun z hz => by obtain rfl := List.mem_singleton.mp hz; exact Or.inr ⟨by decide, "java/lang/IllegalArgumentException", m30_9, List.mem_of_getElem? (i := 1) rfl⟩) (by decide) (by decide) m30_29 m30_30 hce hcv hcl ?_
  show W _ _ _ _ _ _ _ _ _ _ _ _ _ _ _ (F0 m 17 ls [.ref q])
  refine lv_astore (lv' := [(4, .ref q), (0, .ref h0), (1, .int p1), (2, .int p2), (3, .ref o0)]) hx hb d30_SignalTheatreLaw_told_17 hl (by decide) rfl (fun ls hl => ?_)
  refine lv_iconst (v := 2) hx hb d30_SignalTheatreLaw_told_19 (by decide) ?_
  have I : q_I D q_cl _ s [(o0, .inl (cO, 1, .inr (.inl go)))] [(cO, .long)] _ _ := q_pick I [0] [0] rfl (by decide) rfl
  exact q_iret C hr I ⟨rfl, rfl, rfl⟩ (Nat.le_of_ble_eq_true rfl) (Nat.le_of_ble_eq_true rfl) d30_SignalTheatreLaw_told_20
set_option maxHeartbeats 4000000 in
set_option maxRecDepth 100000 in
/-- the law's letter(..): caught, 1 -/
theorem h_letter_ex1 (l : Launch) (D : va_G) (hl9 : l.stackTraces = false) (h0 : Nat) (p1 : Int32) (p2 : Int32) (o0 : Nat) (s_input : Nat) (s_circuit : Nat) (s_spare : Nat) (s_faults : Nat) (s_builder : Nat) (s_stage : Nat) (cO : ClassId) (go : Nat → Int64) : q_Met l ⟨"SignalTheatreLaw", "letter", "(LSignalTheatre;II[J)I"⟩ (Cond.codeWith ⟨"SignalTheatreLaw", "letter", "(LSignalTheatre;II[J)I"⟩ method_11_code 5 (some .int) [(0, 10, 13, 37)]) { frames := 7, cells := 1, slots := 6, locals := 97 } D q_cl [.ref h0, .int p1, .int p2, .ref o0] [(h0, .inr (0, [.ref s_input, .int 0, .int 0, .ref s_circuit, .ref s_spare, .ref s_faults, .ref s_builder, .ref s_stage])), (o0, .inl (cO, 1, .inr (.inl go)))] [(cO, .long)] (fun r w ty => r = .inl (some (.int 1)) ∧ w = [(o0, .inl (cO, 1, .inr (.inl go)))] ∧ ty = [(cO, .long)]) := by
  refine q_ofWH (by decide) ?_
  intro p e s m below meth c C hr hex I
  have hx := C.1
  have hb := C.2.1
  have hl := lv_entry ([.ref h0, .int p1, .int p2, .ref o0]) (n := 5) (Nat.le_of_ble_eq_true rfl)
  rw [lg_entry_eq]
  generalize (lg_sl ([.ref h0, .int p1, .int p2, .ref o0]) ++ List.replicate (5 - (lg_sl ([.ref h0, .int p1, .int p2, .ref o0])).length) Slot.unset).toArray = ls at hl ⊢
  have hl : lv_has ls 5 [(0, .ref h0), (1, .int p1), (2, .int p2), (3, .ref o0)] := hl
  refine lv_aload_n hx hb d30_SignalTheatreLaw_letter_0 rfl (lv_at hl 3 rfl) ?_
  refine lv_iconst (v := 0) hx hb d30_SignalTheatreLaw_letter_1 (by decide) ?_
  refine lv_aload_n hx hb d30_SignalTheatreLaw_letter_2 rfl (lv_at hl 0 rfl) ?_
  refine lv_iload_n hx hb d30_SignalTheatreLaw_letter_3 rfl (lv_at hl 1 rfl) ?_
  refine lv_iload_n hx hb d30_SignalTheatreLaw_letter_4 rfl (lv_at hl 2 rfl) ?_
  refine q_go (wr := [(o0, .inl (cO, 1, .inr (.inl go)))]) (tyr := [(cO, .long)]) C I (q_siteV (As := [.int p1, .int p2]) (rest := [.int 0, .ref o0]) (q0 := 0) C I rfl rfl m30_39 m30_41 m30_42 m30_40 ⟨by decide, by decide⟩ (Eq.trans (b := some 2) (by decide +kernel) rfl) rfl d30_SignalTheatreLaw_letter_5) (c_S_letter l D hl9 h0 s_input s_circuit s_spare s_faults s_builder s_stage p1 p2) m30_40 m30_4 [0] [1] [] [0] rfl rfl (by decide) (by decide) (by decide) rfl rfl hl.1 d30_SignalTheatreLaw_letter_5 (Nat.le_of_ble_eq_true rfl) (Nat.le_of_ble_eq_true rfl) (Nat.le_of_ble_eq_true rfl) (Nat.le_of_ble_eq_true rfl) (fun v w ty H locs hp I => ?_) (fun E w ty H locs q ce hp I hce hcv hcl hX9 => ?_)
  · obtain ⟨-, -, hv⟩ := hp; cases hv
  obtain ⟨rfl, rfl, hv⟩ := hp
  cases hv
  have I : q_I D q_cl _ s [(o0, .inl (cO, 1, .inr (.inl go)))] [(cO, .long)] H _ := I
  refine q_catch C [] { startPc := 0, endPc := 10, handlerPc := 13, catchType := 37 } [] (q_tab1 hex) (fun z hz => nomatch hz) (by decide) (by decide) m30_29 m30_30 hce hcv hcl ?_
  show W _ _ _ _ _ _ _ _ _ _ _ _ _ _ _ (F0 m 13 ls [.ref q])
  refine lv_astore (lv' := [(4, .ref q), (0, .ref h0), (1, .int p1), (2, .int p2), (3, .ref o0)]) hx hb d30_SignalTheatreLaw_letter_13 hl (by decide) rfl (fun ls hl => ?_)
  refine lv_iconst (v := 1) hx hb d30_SignalTheatreLaw_letter_15 (by decide) ?_
  have I : q_I D q_cl _ s [(o0, .inl (cO, 1, .inr (.inl go)))] [(cO, .long)] _ _ := q_pick I [0] [0] rfl (by decide) rfl
  exact q_iret C hr I ⟨rfl, rfl, rfl⟩ (Nat.le_of_ble_eq_true rfl) (Nat.le_of_ble_eq_true rfl) d30_SignalTheatreLaw_letter_16
set_option maxHeartbeats 4000000 in
set_option maxRecDepth 100000 in
/-- the law's log(..): caught, 1 -/
theorem h_log_ex1 (l : Launch) (D : va_G) (hl9 : l.stackTraces = false) (h0 : Nat) (p1 : Int32) (o0 : Nat) (s_input : Nat) (s_circuit : Nat) (s_spare : Nat) (s_faults : Nat) (s_builder : Nat) (s_stage : Nat) (cO : ClassId) (go : Nat → Int64) : q_Met l ⟨"SignalTheatreLaw", "log", "(LSignalTheatre;I[J)I"⟩ (Cond.codeWith ⟨"SignalTheatreLaw", "log", "(LSignalTheatre;I[J)I"⟩ method_12_code 4 (some .int) [(0, 9, 12, 13)]) { frames := 7, cells := 1, slots := 6, locals := 96 } D q_cl [.ref h0, .int p1, .ref o0] [(h0, .inr (0, [.ref s_input, .int 0, .int 0, .ref s_circuit, .ref s_spare, .ref s_faults, .ref s_builder, .ref s_stage])), (o0, .inl (cO, 1, .inr (.inl go)))] [(cO, .long)] (fun r w ty => r = .inl (some (.int 1)) ∧ w = [(o0, .inl (cO, 1, .inr (.inl go)))] ∧ ty = [(cO, .long)]) := by
  refine q_ofWH (by decide) ?_
  intro p e s m below meth c C hr hex I
  have hx := C.1
  have hb := C.2.1
  have hl := lv_entry ([.ref h0, .int p1, .ref o0]) (n := 4) (Nat.le_of_ble_eq_true rfl)
  rw [lg_entry_eq]
  generalize (lg_sl ([.ref h0, .int p1, .ref o0]) ++ List.replicate (4 - (lg_sl ([.ref h0, .int p1, .ref o0])).length) Slot.unset).toArray = ls at hl ⊢
  have hl : lv_has ls 4 [(0, .ref h0), (1, .int p1), (2, .ref o0)] := hl
  refine lv_aload_n hx hb d30_SignalTheatreLaw_log_0 rfl (lv_at hl 2 rfl) ?_
  refine lv_iconst (v := 0) hx hb d30_SignalTheatreLaw_log_1 (by decide) ?_
  refine lv_aload_n hx hb d30_SignalTheatreLaw_log_2 rfl (lv_at hl 0 rfl) ?_
  refine lv_iload_n hx hb d30_SignalTheatreLaw_log_3 rfl (lv_at hl 1 rfl) ?_
  refine q_go (wr := [(o0, .inl (cO, 1, .inr (.inl go)))]) (tyr := [(cO, .long)]) C I (q_siteV (As := [.int p1]) (rest := [.int 0, .ref o0]) (q0 := 0) C I rfl rfl m30_43 m30_45 m30_46 m30_44 ⟨by decide, by decide⟩ (Eq.trans (b := some 1) (by decide +kernel) rfl) rfl d30_SignalTheatreLaw_log_4) (c_S_log l D hl9 h0 s_input s_circuit s_spare s_faults s_builder s_stage p1) m30_44 m30_4 [0] [1] [] [0] rfl rfl (by decide) (by decide) (by decide) rfl rfl hl.1 d30_SignalTheatreLaw_log_4 (Nat.le_of_ble_eq_true rfl) (Nat.le_of_ble_eq_true rfl) (Nat.le_of_ble_eq_true rfl) (Nat.le_of_ble_eq_true rfl) (fun v w ty H locs hp I => ?_) (fun E w ty H locs q ce hp I hce hcv hcl hX9 => ?_)
  · obtain ⟨-, -, hv⟩ := hp; cases hv
  obtain ⟨rfl, rfl, hv⟩ := hp
  cases hv
  have I : q_I D q_cl _ s [(o0, .inl (cO, 1, .inr (.inl go)))] [(cO, .long)] H _ := I
  refine q_catch C [] { startPc := 0, endPc := 9, handlerPc := 12, catchType := 13 } [] (q_tab1 hex) (fun z hz => nomatch hz) (by decide) (by decide) m30_47 m30_48 hce hcv hcl ?_
  show W _ _ _ _ _ _ _ _ _ _ _ _ _ _ _ (F0 m 12 ls [.ref q])
  refine lv_astore_n (lv' := [(3, .ref q), (0, .ref h0), (1, .int p1), (2, .ref o0)]) hx hb d30_SignalTheatreLaw_log_12 rfl hl (by decide) rfl (fun ls hl => ?_)
  refine lv_iconst (v := 1) hx hb d30_SignalTheatreLaw_log_13 (by decide) ?_
  have I : q_I D q_cl _ s [(o0, .inl (cO, 1, .inr (.inl go)))] [(cO, .long)] _ _ := q_pick I [0] [0] rfl (by decide) rfl
  exact q_iret C hr I ⟨rfl, rfl, rfl⟩ (Nat.le_of_ble_eq_true rfl) (Nat.le_of_ble_eq_true rfl) d30_SignalTheatreLaw_log_14
