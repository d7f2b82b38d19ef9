set_option maxRecDepth 20000 in
theorem m20_0 : (Cond.fieldLink "SignalTheatre" 108 "SignalTheatre" "built" "Z" : Cond) ∈ q_big := q_m4 (List.mem_of_getElem? (i := 93) rfl) rfl
set_option maxRecDepth 20000 in
theorem m20_1 : (Cond.methodLink "SignalTheatre" 164 ⟨"SignalTheatre", "isSignal", "(I)Z"⟩ : Cond) ∈ q_big := q_m11 (List.mem_of_getElem? (i := 51) rfl) rfl
set_option maxRecDepth 20000 in
theorem m20_2 : (Cond.code ⟨"SignalTheatre", "isSignal", "(I)Z"⟩ prog_1_method_15_code 2 (Option.some FieldType.boolean) : Cond) ∈ q_big := q_m11 (List.mem_of_getElem? (i := 54) rfl) rfl
set_option maxRecDepth 20000 in
theorem m20_3 : (Cond.instanceMethod ⟨"SignalTheatre", "isSignal", "(I)Z"⟩ : Cond) ∈ q_big := q_m11 (List.mem_of_getElem? (i := 53) rfl) rfl
set_option maxRecDepth 20000 in
theorem m20_4 : (Cond.selects "SignalTheatre" ⟨"SignalTheatre", "isSignal", "(I)Z"⟩ ⟨"SignalTheatre", "isSignal", "(I)Z"⟩ : Cond) ∈ q_big := q_sel (q := (⟨"SignalTheatre", "isSignal", "(I)Z"⟩, 8)) (List.mem_of_getElem? (i := 2) rfl)
set_option maxRecDepth 20000 in
theorem m20_5 : (Cond.initialized "SignalTheatre" : Cond) ∈ q_big := q_m1 (List.mem_of_getElem? (i := 1) rfl) rfl
set_option maxRecDepth 20000 in
theorem m20_6 : (Cond.classLink "SignalTheatre" 86 "java/lang/IllegalArgumentException" : Cond) ∈ q_big := q_m4 (List.mem_of_getElem? (i := 215) rfl) rfl
set_option maxRecDepth 20000 in
theorem m20_7 : (Cond.initialized "java/lang/IllegalArgumentException" : Cond) ∈ q_big := q_m1 (List.mem_of_getElem? (i := 24) rfl) rfl
set_option maxRecDepth 20000 in
theorem m20_8 : (Cond.methodLink "SignalTheatre" 88 ⟨"java/lang/IllegalArgumentException", "<init>", "()V"⟩ : Cond) ∈ q_big := q_m4 (List.mem_of_getElem? (i := 224) rfl) rfl
set_option maxRecDepth 20000 in
theorem m20_9 : (Cond.fieldLink "SignalTheatre" 75 "SignalTheatre" "length" "I" : Cond) ∈ q_big := q_m4 (List.mem_of_getElem? (i := 92) rfl) rfl
set_option maxRecDepth 20000 in
theorem m20_10 : (Cond.fieldLink "SignalTheatre" 45 "SignalTheatre" "faults" "LSignalTheatre$Faults;" : Cond) ∈ q_big := q_m4 (List.mem_of_getElem? (i := 96) rfl) rfl
set_option maxRecDepth 20000 in
theorem m20_11 : (Cond.fieldLink "SignalTheatre" 121 "SignalTheatre$Faults" "place" "I" : Cond) ∈ q_big := q_m1 (List.mem_of_getElem? (i := 148) rfl) rfl
set_option maxRecDepth 20000 in
theorem m20_12 : (Cond.fieldLink "SignalTheatre" 118 "SignalTheatre$Faults" "number" "I" : Cond) ∈ q_big := q_m1 (List.mem_of_getElem? (i := 146) rfl) rfl
set_option maxRecDepth 20000 in
theorem m20_13 : (Cond.classLink "SignalTheatre" 124 "java/lang/IllegalStateException" : Cond) ∈ q_big := q_m10 (List.mem_of_getElem? (i := 55) rfl) rfl
set_option maxRecDepth 20000 in
theorem m20_14 : (Cond.initialized "java/lang/IllegalStateException" : Cond) ∈ q_big := q_m1 (List.mem_of_getElem? (i := 38) rfl) rfl
set_option maxRecDepth 20000 in
theorem m20_15 : (Cond.methodLink "SignalTheatre" 126 ⟨"java/lang/IllegalStateException", "<init>", "()V"⟩ : Cond) ∈ q_big := q_m10 (List.mem_of_getElem? (i := 56) rfl) rfl
set_option maxRecDepth 20000 in
theorem m20_16 : (Cond.methodLink "SignalTheatre" 131 ⟨"SignalTheatre", "isThere", "(II)Z"⟩ : Cond) ∈ q_big := q_m11 (List.mem_of_getElem? (i := 47) rfl) rfl
set_option maxRecDepth 20000 in
theorem m20_17 : (Cond.code ⟨"SignalTheatre", "isThere", "(II)Z"⟩ prog_1_method_16_code 3 (Option.some FieldType.boolean) : Cond) ∈ q_big := q_m11 (List.mem_of_getElem? (i := 50) rfl) rfl
set_option maxRecDepth 20000 in
theorem m20_18 : (Cond.instanceMethod ⟨"SignalTheatre", "isThere", "(II)Z"⟩ : Cond) ∈ q_big := q_m11 (List.mem_of_getElem? (i := 49) rfl) rfl
set_option maxRecDepth 20000 in
theorem m20_19 : (Cond.selects "SignalTheatre" ⟨"SignalTheatre", "isThere", "(II)Z"⟩ ⟨"SignalTheatre", "isThere", "(II)Z"⟩ : Cond) ∈ q_big := q_sel (q := (⟨"SignalTheatre", "isThere", "(II)Z"⟩, 8)) (List.mem_of_getElem? (i := 1) rfl)
set_option maxRecDepth 20000 in
theorem m20_20 : (Cond.classLink "SignalTheatre" 135 "java/util/NoSuchElementException" : Cond) ∈ q_big := q_m11 (List.mem_of_getElem? (i := 56) rfl) rfl
set_option maxRecDepth 20000 in
theorem m20_21 : (Cond.initialized "java/util/NoSuchElementException" : Cond) ∈ q_big := q_m1 (List.mem_of_getElem? (i := 40) rfl) rfl
set_option maxRecDepth 20000 in
theorem m20_22 : (Cond.methodLink "SignalTheatre" 137 ⟨"java/util/NoSuchElementException", "<init>", "()V"⟩ : Cond) ∈ q_big := q_m11 (List.mem_of_getElem? (i := 65) rfl) rfl
set_option maxRecDepth 20000 in
theorem m20_23 : (Cond.classLink "SignalTheatre" 79 "java/lang/IndexOutOfBoundsException" : Cond) ∈ q_big := q_m4 (List.mem_of_getElem? (i := 136) rfl) rfl
set_option maxRecDepth 20000 in
theorem m20_24 : (Cond.initialized "java/lang/IndexOutOfBoundsException" : Cond) ∈ q_big := q_m1 (List.mem_of_getElem? (i := 23) rfl) rfl
set_option maxRecDepth 20000 in
theorem m20_25 : (Cond.methodLink "SignalTheatre" 81 ⟨"java/lang/IndexOutOfBoundsException", "<init>", "()V"⟩ : Cond) ∈ q_big := q_m4 (List.mem_of_getElem? (i := 180) rfl) rfl
theorem d20_S_isSignal_0 : decode prog_1_method_15_code 0 = .ok (.aload_n 0, 1) := by decide +kernel
theorem d20_S_isSignal_1 : decode prog_1_method_15_code 1 = .ok (.getfield 108, 3) := by decide +kernel
theorem d20_S_isSignal_4 : decode prog_1_method_15_code 4 = .ok (.ifCond .eq 22, 3) := by decide +kernel
theorem d20_S_isSignal_26 : decode prog_1_method_15_code 26 = .ok (.iconst 0, 1) := by decide +kernel
theorem d20_S_isSignal_27 : decode prog_1_method_15_code 27 = .ok (.ireturn, 1) := by decide +kernel
theorem d20_S_isThere_0 : decode prog_1_method_16_code 0 = .ok (.aload_n 0, 1) := by decide +kernel
theorem d20_S_isThere_1 : decode prog_1_method_16_code 1 = .ok (.iload_n 1, 1) := by decide +kernel
theorem d20_S_isThere_2 : decode prog_1_method_16_code 2 = .ok (.invokevirtual 164, 3) := by decide +kernel
theorem d20_S_isThere_5 : decode prog_1_method_16_code 5 = .ok (.ifCond .eq 31, 3) := by decide +kernel
theorem d20_S_isThere_36 : decode prog_1_method_16_code 36 = .ok (.iconst 0, 1) := by decide +kernel
theorem d20_S_isThere_37 : decode prog_1_method_16_code 37 = .ok (.ireturn, 1) := by decide +kernel
theorem d20_S_end_0 : decode prog_1_method_4_code 0 = .ok (.iload_n 1, 1) := by decide +kernel
theorem d20_S_end_1 : decode prog_1_method_4_code 1 = .ok (.ifCond .lt 11, 3) := by decide +kernel
theorem d20_S_end_12 : decode prog_1_method_4_code 12 = .ok (.new 86, 3) := by decide +kernel
theorem d20_S_end_15 : decode prog_1_method_4_code 15 = .ok (.dup, 1) := by decide +kernel
theorem d20_S_end_16 : decode prog_1_method_4_code 16 = .ok (.invokespecial 88, 3) := by decide +kernel
theorem d20_S_end_19 : decode prog_1_method_4_code 19 = .ok (.athrow, 1) := by decide +kernel
theorem d20_S_end_4 : decode prog_1_method_4_code 4 = .ok (.iload_n 1, 1) := by decide +kernel
theorem d20_S_end_5 : decode prog_1_method_4_code 5 = .ok (.aload_n 0, 1) := by decide +kernel
theorem d20_S_end_6 : decode prog_1_method_4_code 6 = .ok (.getfield 75, 3) := by decide +kernel
theorem d20_S_end_9 : decode prog_1_method_4_code 9 = .ok (.if_icmp .le 11, 3) := by decide +kernel
theorem d20_S_end_20 : decode prog_1_method_4_code 20 = .ok (.aload_n 0, 1) := by decide +kernel
theorem d20_S_end_21 : decode prog_1_method_4_code 21 = .ok (.dup, 1) := by decide +kernel
theorem d20_S_end_22 : decode prog_1_method_4_code 22 = .ok (.getfield 75, 3) := by decide +kernel
theorem d20_S_end_25 : decode prog_1_method_4_code 25 = .ok (.iload_n 1, 1) := by decide +kernel
theorem d20_S_end_26 : decode prog_1_method_4_code 26 = .ok (.isub, 1) := by decide +kernel
theorem d20_S_end_27 : decode prog_1_method_4_code 27 = .ok (.putfield 75, 3) := by decide +kernel
theorem d20_S_end_30 : decode prog_1_method_4_code 30 = .ok (.aload_n 0, 1) := by decide +kernel
theorem d20_S_end_31 : decode prog_1_method_4_code 31 = .ok (.getfield 75, 3) := by decide +kernel
theorem d20_S_end_34 : decode prog_1_method_4_code 34 = .ok (.ireturn, 1) := by decide +kernel
theorem d20_S_fault_0 : decode prog_1_method_6_code 0 = .ok (.iload_n 1, 1) := by decide +kernel
theorem d20_S_fault_1 : decode prog_1_method_6_code 1 = .ok (.ifCond .lt 8, 3) := by decide +kernel
theorem d20_S_fault_9 : decode prog_1_method_6_code 9 = .ok (.new 86, 3) := by decide +kernel
theorem d20_S_fault_12 : decode prog_1_method_6_code 12 = .ok (.dup, 1) := by decide +kernel
theorem d20_S_fault_13 : decode prog_1_method_6_code 13 = .ok (.invokespecial 88, 3) := by decide +kernel
theorem d20_S_fault_16 : decode prog_1_method_6_code 16 = .ok (.athrow, 1) := by decide +kernel
theorem d20_S_fault_4 : decode prog_1_method_6_code 4 = .ok (.iload_n 1, 1) := by decide +kernel
theorem d20_S_fault_5 : decode prog_1_method_6_code 5 = .ok (.iconst 1, 1) := by decide +kernel
theorem d20_S_fault_6 : decode prog_1_method_6_code 6 = .ok (.if_icmp .le 11, 3) := by decide +kernel
theorem d20_S_fault_17 : decode prog_1_method_6_code 17 = .ok (.iload_n 1, 1) := by decide +kernel
theorem d20_S_fault_18 : decode prog_1_method_6_code 18 = .ok (.ifCond .ne 13, 3) := by decide +kernel
theorem d20_S_fault_31 : decode prog_1_method_6_code 31 = .ok (.aload_n 0, 1) := by decide +kernel
theorem d20_S_fault_32 : decode prog_1_method_6_code 32 = .ok (.getfield 45, 3) := by decide +kernel
theorem d20_S_fault_35 : decode prog_1_method_6_code 35 = .ok (.getfield 121, 3) := by decide +kernel
theorem d20_S_fault_38 : decode prog_1_method_6_code 38 = .ok (.ireturn, 1) := by decide +kernel
theorem d20_S_fault_21 : decode prog_1_method_6_code 21 = .ok (.aload_n 0, 1) := by decide +kernel
theorem d20_S_fault_22 : decode prog_1_method_6_code 22 = .ok (.getfield 45, 3) := by decide +kernel
theorem d20_S_fault_25 : decode prog_1_method_6_code 25 = .ok (.getfield 118, 3) := by decide +kernel
theorem d20_S_fault_28 : decode prog_1_method_6_code 28 = .ok (.goto 10, 3) := by decide +kernel
theorem d20_S_run_0 : decode prog_1_method_7_code 0 = .ok (.iload_n 1, 1) := by decide +kernel
theorem d20_S_run_1 : decode prog_1_method_7_code 1 = .ok (.iconst 1, 1) := by decide +kernel
theorem d20_S_run_2 : decode prog_1_method_7_code 2 = .ok (.if_icmp .lt 10, 3) := by decide +kernel
theorem d20_S_run_12 : decode prog_1_method_7_code 12 = .ok (.new 86, 3) := by decide +kernel
theorem d20_S_run_15 : decode prog_1_method_7_code 15 = .ok (.dup, 1) := by decide +kernel
theorem d20_S_run_16 : decode prog_1_method_7_code 16 = .ok (.invokespecial 88, 3) := by decide +kernel
theorem d20_S_run_19 : decode prog_1_method_7_code 19 = .ok (.athrow, 1) := by decide +kernel
theorem d20_S_run_5 : decode prog_1_method_7_code 5 = .ok (.iload_n 1, 1) := by decide +kernel
theorem d20_S_run_6 : decode prog_1_method_7_code 6 = .ok (.sipush 20000, 3) := by decide +kernel
theorem d20_S_run_9 : decode prog_1_method_7_code 9 = .ok (.if_icmp .le 11, 3) := by decide +kernel
theorem d20_S_run_20 : decode prog_1_method_7_code 20 = .ok (.aload_n 0, 1) := by decide +kernel
theorem d20_S_run_21 : decode prog_1_method_7_code 21 = .ok (.getfield 108, 3) := by decide +kernel
theorem d20_S_run_24 : decode prog_1_method_7_code 24 = .ok (.ifCond .ne 11, 3) := by decide +kernel
theorem d20_S_run_27 : decode prog_1_method_7_code 27 = .ok (.new 124, 3) := by decide +kernel
theorem d20_S_run_30 : decode prog_1_method_7_code 30 = .ok (.dup, 1) := by decide +kernel
theorem d20_S_run_31 : decode prog_1_method_7_code 31 = .ok (.invokespecial 126, 3) := by decide +kernel
theorem d20_S_run_34 : decode prog_1_method_7_code 34 = .ok (.athrow, 1) := by decide +kernel
theorem d20_S_value_0 : decode prog_1_method_8_code 0 = .ok (.iload_n 3, 1) := by decide +kernel
theorem d20_S_value_1 : decode prog_1_method_8_code 1 = .ok (.ifCond .lt 8, 3) := by decide +kernel
theorem d20_S_value_9 : decode prog_1_method_8_code 9 = .ok (.new 86, 3) := by decide +kernel
theorem d20_S_value_12 : decode prog_1_method_8_code 12 = .ok (.dup, 1) := by decide +kernel
theorem d20_S_value_13 : decode prog_1_method_8_code 13 = .ok (.invokespecial 88, 3) := by decide +kernel
theorem d20_S_value_16 : decode prog_1_method_8_code 16 = .ok (.athrow, 1) := by decide +kernel
theorem d20_S_value_4 : decode prog_1_method_8_code 4 = .ok (.iload_n 3, 1) := by decide +kernel
theorem d20_S_value_5 : decode prog_1_method_8_code 5 = .ok (.iconst 1, 1) := by decide +kernel
theorem d20_S_value_6 : decode prog_1_method_8_code 6 = .ok (.if_icmp .le 11, 3) := by decide +kernel
theorem d20_S_value_17 : decode prog_1_method_8_code 17 = .ok (.aload_n 0, 1) := by decide +kernel
theorem d20_S_value_18 : decode prog_1_method_8_code 18 = .ok (.iload_n 1, 1) := by decide +kernel
theorem d20_S_value_19 : decode prog_1_method_8_code 19 = .ok (.iload_n 2, 1) := by decide +kernel
theorem d20_S_value_20 : decode prog_1_method_8_code 20 = .ok (.invokevirtual 131, 3) := by decide +kernel
theorem d20_S_value_23 : decode prog_1_method_8_code 23 = .ok (.ifCond .ne 11, 3) := by decide +kernel
theorem d20_S_value_26 : decode prog_1_method_8_code 26 = .ok (.new 135, 3) := by decide +kernel
theorem d20_S_value_29 : decode prog_1_method_8_code 29 = .ok (.dup, 1) := by decide +kernel
theorem d20_S_value_30 : decode prog_1_method_8_code 30 = .ok (.invokespecial 137, 3) := by decide +kernel
theorem d20_S_value_33 : decode prog_1_method_8_code 33 = .ok (.athrow, 1) := by decide +kernel
theorem d20_S_told_0 : decode prog_1_method_10_code 0 = .ok (.iload_n 2, 1) := by decide +kernel
theorem d20_S_told_1 : decode prog_1_method_10_code 1 = .ok (.ifCond .lt 8, 3) := by decide +kernel
theorem d20_S_told_9 : decode prog_1_method_10_code 9 = .ok (.new 86, 3) := by decide +kernel
theorem d20_S_told_12 : decode prog_1_method_10_code 12 = .ok (.dup, 1) := by decide +kernel
theorem d20_S_told_13 : decode prog_1_method_10_code 13 = .ok (.invokespecial 88, 3) := by decide +kernel
theorem d20_S_told_16 : decode prog_1_method_10_code 16 = .ok (.athrow, 1) := by decide +kernel
theorem d20_S_told_4 : decode prog_1_method_10_code 4 = .ok (.iload_n 2, 1) := by decide +kernel
theorem d20_S_told_5 : decode prog_1_method_10_code 5 = .ok (.iconst 4, 1) := by decide +kernel
theorem d20_S_told_6 : decode prog_1_method_10_code 6 = .ok (.if_icmp .le 11, 3) := by decide +kernel
theorem d20_S_told_17 : decode prog_1_method_10_code 17 = .ok (.aload_n 0, 1) := by decide +kernel
theorem d20_S_told_18 : decode prog_1_method_10_code 18 = .ok (.iload_n 1, 1) := by decide +kernel
theorem d20_S_told_19 : decode prog_1_method_10_code 19 = .ok (.invokevirtual 164, 3) := by decide +kernel
theorem d20_S_told_22 : decode prog_1_method_10_code 22 = .ok (.ifCond .ne 11, 3) := by decide +kernel
theorem d20_S_told_25 : decode prog_1_method_10_code 25 = .ok (.new 135, 3) := by decide +kernel
theorem d20_S_told_28 : decode prog_1_method_10_code 28 = .ok (.dup, 1) := by decide +kernel
theorem d20_S_told_29 : decode prog_1_method_10_code 29 = .ok (.invokespecial 137, 3) := by decide +kernel
theorem d20_S_told_32 : decode prog_1_method_10_code 32 = .ok (.athrow, 1) := by decide +kernel
theorem d20_S_set_0 : decode prog_1_method_9_code 0 = .ok (.aload_n 0, 1) := by decide +kernel
theorem d20_S_set_1 : decode prog_1_method_9_code 1 = .ok (.iload_n 1, 1) := by decide +kernel
theorem d20_S_set_2 : decode prog_1_method_9_code 2 = .ok (.iload_n 2, 1) := by decide +kernel
theorem d20_S_set_3 : decode prog_1_method_9_code 3 = .ok (.invokevirtual 131, 3) := by decide +kernel
theorem d20_S_set_6 : decode prog_1_method_9_code 6 = .ok (.ifCond .eq 18, 3) := by decide +kernel
theorem d20_S_set_24 : decode prog_1_method_9_code 24 = .ok (.new 135, 3) := by decide +kernel
theorem d20_S_set_27 : decode prog_1_method_9_code 27 = .ok (.dup, 1) := by decide +kernel
theorem d20_S_set_28 : decode prog_1_method_9_code 28 = .ok (.invokespecial 137, 3) := by decide +kernel
theorem d20_S_set_31 : decode prog_1_method_9_code 31 = .ok (.athrow, 1) := by decide +kernel
theorem d20_S_letter_0 : decode prog_1_method_11_code 0 = .ok (.aload_n 0, 1) := by decide +kernel
theorem d20_S_letter_1 : decode prog_1_method_11_code 1 = .ok (.iload_n 1, 1) := by decide +kernel
theorem d20_S_letter_2 : decode prog_1_method_11_code 2 = .ok (.invokevirtual 164, 3) := by decide +kernel
theorem d20_S_letter_5 : decode prog_1_method_11_code 5 = .ok (.ifCond .eq 19, 3) := by decide +kernel
theorem d20_S_letter_24 : decode prog_1_method_11_code 24 = .ok (.new 135, 3) := by decide +kernel
theorem d20_S_letter_27 : decode prog_1_method_11_code 27 = .ok (.dup, 1) := by decide +kernel
theorem d20_S_letter_28 : decode prog_1_method_11_code 28 = .ok (.invokespecial 137, 3) := by decide +kernel
theorem d20_S_letter_31 : decode prog_1_method_11_code 31 = .ok (.athrow, 1) := by decide +kernel
theorem d20_S_log_0 : decode prog_1_method_12_code 0 = .ok (.aload_n 0, 1) := by decide +kernel
theorem d20_S_log_1 : decode prog_1_method_12_code 1 = .ok (.getfield 108, 3) := by decide +kernel
theorem d20_S_log_4 : decode prog_1_method_12_code 4 = .ok (.ifCond .eq 21, 3) := by decide +kernel
theorem d20_S_log_25 : decode prog_1_method_12_code 25 = .ok (.new 79, 3) := by decide +kernel
theorem d20_S_log_28 : decode prog_1_method_12_code 28 = .ok (.dup, 1) := by decide +kernel
theorem d20_S_log_29 : decode prog_1_method_12_code 29 = .ok (.invokespecial 81, 3) := by decide +kernel
theorem d20_S_log_32 : decode prog_1_method_12_code 32 = .ok (.athrow, 1) := by decide +kernel
theorem d20_S_time_0 : decode prog_1_method_13_code 0 = .ok (.aload_n 0, 1) := by decide +kernel
theorem d20_S_time_1 : decode prog_1_method_13_code 1 = .ok (.getfield 108, 3) := by decide +kernel
theorem d20_S_time_4 : decode prog_1_method_13_code 4 = .ok (.ifCond .eq 16, 3) := by decide +kernel
theorem d20_S_time_20 : decode prog_1_method_13_code 20 = .ok (.lconst 0, 1) := by decide +kernel
theorem d20_S_time_21 : decode prog_1_method_13_code 21 = .ok (.lreturn, 1) := by decide +kernel
theorem d20_S_count_0 : decode prog_1_method_14_code 0 = .ok (.iload_n 1, 1) := by decide +kernel
theorem d20_S_count_1 : decode prog_1_method_14_code 1 = .ok (.ifCond .ne 8, 3) := by decide +kernel
theorem d20_S_count_9 : decode prog_1_method_14_code 9 = .ok (.iload_n 1, 1) := by decide +kernel
theorem d20_S_count_10 : decode prog_1_method_14_code 10 = .ok (.ifCond .lt 9, 3) := by decide +kernel
theorem d20_S_count_19 : decode prog_1_method_14_code 19 = .ok (.iconst (-1), 1) := by decide +kernel
theorem d20_S_count_20 : decode prog_1_method_14_code 20 = .ok (.ireturn, 1) := by decide +kernel
theorem d20_S_count_13 : decode prog_1_method_14_code 13 = .ok (.iload_n 1, 1) := by decide +kernel
theorem d20_S_count_14 : decode prog_1_method_14_code 14 = .ok (.bipush 11, 2) := by decide +kernel
theorem d20_S_count_16 : decode prog_1_method_14_code 16 = .ok (.if_icmp .le 5, 3) := by decide +kernel
theorem d20_S_count_21 : decode prog_1_method_14_code 21 = .ok (.aload_n 0, 1) := by decide +kernel
theorem d20_S_count_22 : decode prog_1_method_14_code 22 = .ok (.getfield 108, 3) := by decide +kernel
theorem d20_S_count_25 : decode prog_1_method_14_code 25 = .ok (.ifCond .eq 14, 3) := by decide +kernel
theorem d20_S_count_39 : decode prog_1_method_14_code 39 = .ok (.iconst 0, 1) := by decide +kernel
theorem d20_S_count_40 : decode prog_1_method_14_code 40 = .ok (.ireturn, 1) := by decide +kernel
theorem d20_S_count_4 : decode prog_1_method_14_code 4 = .ok (.aload_n 0, 1) := by decide +kernel
theorem d20_S_count_5 : decode prog_1_method_14_code 5 = .ok (.getfield 75, 3) := by decide +kernel
theorem d20_S_count_8 : decode prog_1_method_14_code 8 = .ok (.ireturn, 1) := by decide +kernel
def o_end (n : Int32) : q_O := if n < 0 ∨ ¬ n ≤ 0 then Sum.inr "java/lang/IllegalArgumentException" else Sum.inl (some (.int (0 - n)))
def o_fault (w : Int32) : q_O := if w < 0 ∨ ¬ w ≤ 1 then Sum.inr "java/lang/IllegalArgumentException" else if ¬ w = 0 then Sum.inl (some (.int (-1))) else Sum.inl (some (.int 0))
def o_run (n : Int32) : q_O := if n < 1 ∨ ¬ n ≤ 20000 then Sum.inr "java/lang/IllegalArgumentException" else Sum.inr "java/lang/IllegalStateException"
def o_value (k : Int32) : q_O := if k < 0 ∨ ¬ k ≤ 1 then Sum.inr "java/lang/IllegalArgumentException" else Sum.inr "java/util/NoSuchElementException"
def o_told (k : Int32) : q_O := if k < 0 ∨ ¬ k ≤ 4 then Sum.inr "java/lang/IllegalArgumentException" else Sum.inr "java/util/NoSuchElementException"
def o_count (w : Int32) : Int32 := if ¬ w = 0 then (if w < 0 ∨ ¬ w ≤ 11 then -1 else 0) else 0
set_option maxHeartbeats 4000000 in
set_option maxRecDepth 100000 in
/-- nothing is built: no such thing -/
theorem c_S_isSignal (l : Launch) (D : va_G) (h0 : Nat) (s_input : Nat) (s_circuit : Nat) (s_spare : Nat) (s_faults : Nat) (s_builder : Nat) (s_stage : Nat) (v : Int32) : q_Met l ⟨"SignalTheatre", "isSignal", "(I)Z"⟩ (Cond.code ⟨"SignalTheatre", "isSignal", "(I)Z"⟩ prog_1_method_15_code 2 (some .boolean)) { frames := 0, cells := 0, slots := 0, locals := 0 } D q_cl [.ref h0, .int v] [(h0, .inr (0, [.ref s_input, .int 0, .int 0, .ref s_circuit, .ref s_spare, .ref s_faults, .ref s_builder, .ref s_stage]))] [] (fun r w ty => r = .inl (some (.int 0)) ∧ w = [(h0, .inr (0, [.ref s_input, .int 0, .int 0, .ref s_circuit, .ref s_spare, .ref s_faults, .ref s_builder, .ref s_stage]))] ∧ ty = []) := by
  refine q_ofW (by decide) ?_
  intro p e s m below meth c C hr hin hex I
  have hx := C.1
  have hb := C.2.1
  have hl := lv_entry ([.ref h0, .int v]) (n := 2) (Nat.le_of_ble_eq_true rfl)
  rw [lg_entry_eq]
  generalize (lg_sl ([.ref h0, .int v]) ++ List.replicate (2 - (lg_sl ([.ref h0, .int v])).length) Slot.unset).toArray = ls at hl ⊢
  have hl : lv_has ls 2 [(0, .ref h0), (1, .int v)] := hl
  refine lv_aload_n hx hb d20_S_isSignal_0 rfl (lv_at hl 0 rfl) ?_
  refine q_get C I 0 2 rfl rfl i_S (by decide) m20_0 rfl d20_S_isSignal_1 ?_
  refine lv_if_eq (tgt := 26) hx hb d20_S_isSignal_4 (by decide) (fun _ => ?_) (fun h => absurd h (by decide))
  refine lv_iconst (v := 0) hx hb d20_S_isSignal_26 (by decide) ?_
  have I : q_I D q_cl _ s [(h0, .inr (0, [.ref s_input, .int 0, .int 0, .ref s_circuit, .ref s_spare, .ref s_faults, .ref s_builder, .ref s_stage]))] [] _ _ := q_pick I [0] [] rfl (by decide) rfl
  exact q_zret C hr rfl I ⟨rfl, rfl, rfl⟩ (Nat.le_of_ble_eq_true rfl) (Nat.le_of_ble_eq_true rfl) d20_S_isSignal_27
set_option maxHeartbeats 4000000 in
set_option maxRecDepth 100000 in
/-- nothing is built: no such thing -/
theorem c_S_isThere (l : Launch) (D : va_G) (h0 : Nat) (s_input : Nat) (s_circuit : Nat) (s_spare : Nat) (s_faults : Nat) (s_builder : Nat) (s_stage : Nat) (v : Int32) (w : Int32) : q_Met l ⟨"SignalTheatre", "isThere", "(II)Z"⟩ (Cond.code ⟨"SignalTheatre", "isThere", "(II)Z"⟩ prog_1_method_16_code 3 (some .boolean)) { frames := 1, cells := 0, slots := 0, locals := 13 } D q_cl [.ref h0, .int v, .int w] [(h0, .inr (0, [.ref s_input, .int 0, .int 0, .ref s_circuit, .ref s_spare, .ref s_faults, .ref s_builder, .ref s_stage]))] [] (fun r w ty => r = .inl (some (.int 0)) ∧ w = [(h0, .inr (0, [.ref s_input, .int 0, .int 0, .ref s_circuit, .ref s_spare, .ref s_faults, .ref s_builder, .ref s_stage]))] ∧ ty = []) := by
  refine q_ofW (by decide) ?_
  intro p e s m below meth c C hr hin hex I
  have hx := C.1
  have hb := C.2.1
  have hl := lv_entry ([.ref h0, .int v, .int w]) (n := 3) (Nat.le_of_ble_eq_true rfl)
  rw [lg_entry_eq]
  generalize (lg_sl ([.ref h0, .int v, .int w]) ++ List.replicate (3 - (lg_sl ([.ref h0, .int v, .int w])).length) Slot.unset).toArray = ls at hl ⊢
  have hl : lv_has ls 3 [(0, .ref h0), (1, .int v), (2, .int w)] := hl
  refine lv_aload_n hx hb d20_S_isThere_0 rfl (lv_at hl 0 rfl) ?_
  refine lv_iload_n hx hb d20_S_isThere_1 rfl (lv_at hl 1 rfl) ?_
  refine q_go (wr := []) (tyr := []) C I (q_siteV (As := [.int v]) (rest := []) (q0 := 0) C I rfl rfl m20_1 m20_3 m20_4 m20_2 ⟨by decide, by decide⟩ (Eq.trans (b := some 1) (by decide +kernel) rfl) rfl d20_S_isThere_2) (c_S_isSignal l D h0 s_input s_circuit s_spare s_faults s_builder s_stage (v)) m20_2 m20_5 [0] [] [] [] rfl rfl (by decide) (by decide) (by decide) rfl rfl hl.1 d20_S_isThere_2 (Nat.le_of_ble_eq_true rfl) (Nat.le_of_ble_eq_true rfl) (Nat.le_of_ble_eq_true rfl) (Nat.le_of_ble_eq_true rfl) (fun v w ty H locs hp I => ?_) (fun E w ty H locs q ce hp _ _ _ _ => ?_)
  rotate_left
  · obtain ⟨hv, -⟩ := hp; cases hv
  obtain ⟨hv, rfl, rfl⟩ := hp
  cases hv
  have I : q_I D q_cl _ s [(h0, .inr (0, [.ref s_input, .int 0, .int 0, .ref s_circuit, .ref s_spare, .ref s_faults, .ref s_builder, .ref s_stage]))] [] H _ := I
  refine W.eq (g2 := F0 m 5 ls [.int 0]) rfl ?_
  refine lv_if_eq (tgt := 36) hx hb d20_S_isThere_5 (by decide) (fun _ => ?_) (fun h => absurd h (by decide))
  refine lv_iconst (v := 0) hx hb d20_S_isThere_36 (by decide) ?_
  have I : q_I D q_cl _ s [(h0, .inr (0, [.ref s_input, .int 0, .int 0, .ref s_circuit, .ref s_spare, .ref s_faults, .ref s_builder, .ref s_stage]))] [] _ _ := q_pick I [0] [] rfl (by decide) rfl
  exact q_zret C hr rfl I ⟨rfl, rfl, rfl⟩ (Nat.le_of_ble_eq_true rfl) (Nat.le_of_ble_eq_true rfl) d20_S_isThere_37
set_option maxHeartbeats 4000000 in
set_option maxRecDepth 100000 in
/-- end(n) on a fresh object -/
theorem c_S_end (l : Launch) (D : va_G) (hl9 : l.stackTraces = false) (h0 : Nat) (s_input : Nat) (s_circuit : Nat) (s_spare : Nat) (s_faults : Nat) (s_builder : Nat) (s_stage : Nat) (n : Int32) : q_Met l ⟨"SignalTheatre", "end", "(I)I"⟩ (Cond.code ⟨"SignalTheatre", "end", "(I)I"⟩ prog_1_method_4_code 2 (some .int)) { frames := 6, cells := 1, slots := 6, locals := 81 } D q_cl [.ref h0, .int n] [(h0, .inr (0, [.ref s_input, .int 0, .int 0, .ref s_circuit, .ref s_spare, .ref s_faults, .ref s_builder, .ref s_stage]))] [] (fun r w ty => w = [] ∧ ty = [] ∧ r = o_end n) := by
  refine q_ofW (by decide) ?_
  intro p e s m below meth c C hr hin hex I
  have hx := C.1
  have hb := C.2.1
  have hl := lv_entry ([.ref h0, .int n]) (n := 2) (Nat.le_of_ble_eq_true rfl)
  rw [lg_entry_eq]
  generalize (lg_sl ([.ref h0, .int n]) ++ List.replicate (2 - (lg_sl ([.ref h0, .int n])).length) Slot.unset).toArray = ls at hl ⊢
  have hl : lv_has ls 2 [(0, .ref h0), (1, .int n)] := hl
  refine lv_iload_n hx hb d20_S_end_0 rfl (lv_at hl 1 rfl) ?_
  refine lv_if_lt (tgt := 12) hx hb d20_S_end_1 (by decide) (fun c1 => ?_) (fun c1 => ?_)
  · skip
    have I : q_I D q_cl _ s [] [] _ _ := q_pick I [] [] rfl (by decide) rfl
    exact q_throw0 hl9 C hex I fit_Iae fit_names m20_6 m20_7 (tw_Iae m20_8) hl.1 d20_S_end_12 d20_S_end_15 d20_S_end_16 d20_S_end_19 (Nat.le_of_ble_eq_true rfl) (Nat.le_of_ble_eq_true rfl) (Nat.le_of_ble_eq_true rfl) (Nat.le_of_ble_eq_true rfl) ⟨rfl, rfl, (if_pos (Or.inl c1)).symm⟩ rfl (Nat.le_of_ble_eq_true rfl) (Nat.le_of_ble_eq_true rfl)
  · skip
    refine lv_iload_n hx hb d20_S_end_4 rfl (lv_at hl 1 rfl) ?_
    refine lv_aload_n hx hb d20_S_end_5 rfl (lv_at hl 0 rfl) ?_
    refine q_get C I 0 1 rfl rfl i_S (by decide) m20_9 rfl d20_S_end_6 ?_
    refine lv_icmp_le (tgt := 20) hx hb d20_S_end_9 (by decide) (fun c9 => ?_) (fun c9 => ?_)
    · skip
      refine lv_aload_n hx hb d20_S_end_20 rfl (lv_at hl 0 rfl) ?_
      refine lv_dup hx hb d20_S_end_21 rfl ?_
      refine q_get C I 0 1 rfl rfl i_S (by decide) m20_9 rfl d20_S_end_22 ?_
      refine lv_iload_n hx hb d20_S_end_25 rfl (lv_at hl 1 rfl) ?_
      refine lv_isub hx hb d20_S_end_26 ?_
      refine q_put t_S t_S_ok n_S C I 0 1 rfl rfl i_S (by decide) m20_9 rfl rfl rfl (Nat.le_of_ble_eq_true rfl) d20_S_end_27 (fun H locs I => ?_)
      have I : q_I D q_cl _ s [(h0, .inr (0, [.ref s_input, .int (0 - n), .int 0, .ref s_circuit, .ref s_spare, .ref s_faults, .ref s_builder, .ref s_stage]))] [] H _ := I
      refine lv_aload_n hx hb d20_S_end_30 rfl (lv_at hl 0 rfl) ?_
      refine q_get C I 0 1 rfl rfl i_S (by decide) m20_9 rfl d20_S_end_31 ?_
      have I : q_I D q_cl _ s [] [] _ _ := q_pick I [] [] rfl (by decide) rfl
      exact q_iret C hr I ⟨rfl, rfl, (if_neg (fun h => h.elim c1 (fun h => h c9))).symm⟩ (Nat.le_of_ble_eq_true rfl) (Nat.le_of_ble_eq_true rfl) d20_S_end_34
    · skip
      have I : q_I D q_cl _ s [] [] _ _ := q_pick I [] [] rfl (by decide) rfl
      exact q_throw0 hl9 C hex I fit_Iae fit_names m20_6 m20_7 (tw_Iae m20_8) hl.1 d20_S_end_12 d20_S_end_15 d20_S_end_16 d20_S_end_19 (Nat.le_of_ble_eq_true rfl) (Nat.le_of_ble_eq_true rfl) (Nat.le_of_ble_eq_true rfl) (Nat.le_of_ble_eq_true rfl) ⟨rfl, rfl, (if_pos (Or.inr c9)).symm⟩ rfl (Nat.le_of_ble_eq_true rfl) (Nat.le_of_ble_eq_true rfl)
set_option maxHeartbeats 4000000 in
set_option maxRecDepth 100000 in
/-- fault(w) on a fresh object -/
theorem c_S_fault (l : Launch) (D : va_G) (hl9 : l.stackTraces = false) (h0 : Nat) (s_input : Nat) (s_circuit : Nat) (s_spare : Nat) (s_faults : Nat) (s_builder : Nat) (s_stage : Nat) (f0 : Nat) (f3 f4 f5 f6 : Int32) (k : Int32) : q_Met l ⟨"SignalTheatre", "fault", "(I)I"⟩ (Cond.code ⟨"SignalTheatre", "fault", "(I)I"⟩ prog_1_method_6_code 2 (some .int)) { frames := 6, cells := 1, slots := 6, locals := 81 } D q_cl [.ref h0, .int k] [(h0, .inr (0, [.ref s_input, .int 0, .int 0, .ref s_circuit, .ref s_spare, .ref s_faults, .ref s_builder, .ref s_stage])), (s_faults, .inr (2, [.ref f0, .int 0, .int (-1), .int f3, .int f4, .int f5, .int f6]))] [] (fun r w ty => w = [] ∧ ty = [] ∧ r = o_fault k) := by
  refine q_ofW (by decide) ?_
  intro p e s m below meth c C hr hin hex I
  have hx := C.1
  have hb := C.2.1
  have hl := lv_entry ([.ref h0, .int k]) (n := 2) (Nat.le_of_ble_eq_true rfl)
  rw [lg_entry_eq]
  generalize (lg_sl ([.ref h0, .int k]) ++ List.replicate (2 - (lg_sl ([.ref h0, .int k])).length) Slot.unset).toArray = ls at hl ⊢
  have hl : lv_has ls 2 [(0, .ref h0), (1, .int k)] := hl
  refine lv_iload_n hx hb d20_S_fault_0 rfl (lv_at hl 1 rfl) ?_
  refine lv_if_lt (tgt := 9) hx hb d20_S_fault_1 (by decide) (fun c1 => ?_) (fun c1 => ?_)
  · skip
    have I : q_I D q_cl _ s [] [] _ _ := q_pick I [] [] rfl (by decide) rfl
    exact q_throw0 hl9 C hex I fit_Iae fit_names m20_6 m20_7 (tw_Iae m20_8) hl.1 d20_S_fault_9 d20_S_fault_12 d20_S_fault_13 d20_S_fault_16 (Nat.le_of_ble_eq_true rfl) (Nat.le_of_ble_eq_true rfl) (Nat.le_of_ble_eq_true rfl) (Nat.le_of_ble_eq_true rfl) ⟨rfl, rfl, (if_pos (Or.inl c1)).symm⟩ rfl (Nat.le_of_ble_eq_true rfl) (Nat.le_of_ble_eq_true rfl)
  · skip
    refine lv_iload_n hx hb d20_S_fault_4 rfl (lv_at hl 1 rfl) ?_
    refine lv_iconst (v := 1) hx hb d20_S_fault_5 (by decide) ?_
    refine lv_icmp_le (tgt := 17) hx hb d20_S_fault_6 (by decide) (fun c6 => ?_) (fun c6 => ?_)
    · skip
      refine lv_iload_n hx hb d20_S_fault_17 rfl (lv_at hl 1 rfl) ?_
      refine lv_if_ne (tgt := 31) hx hb d20_S_fault_18 (by decide) (fun c18 => ?_) (fun c18 => ?_)
      · skip
        refine lv_aload_n hx hb d20_S_fault_31 rfl (lv_at hl 0 rfl) ?_
        refine q_get C I 0 5 rfl rfl i_S (by decide) m20_10 rfl d20_S_fault_32 ?_
        refine q_get C I 1 2 rfl rfl i_Flt (by decide) m20_11 rfl d20_S_fault_35 ?_
        have I : q_I D q_cl _ s [] [] _ _ := q_pick I [] [] rfl (by decide) rfl
        exact q_iret C hr I ⟨rfl, rfl, by rw [o_fault, if_neg (fun h : _ ∨ _ => h.elim c1 (fun h => h c6)), if_pos c18]⟩ (Nat.le_of_ble_eq_true rfl) (Nat.le_of_ble_eq_true rfl) d20_S_fault_38
      · skip
        refine lv_aload_n hx hb d20_S_fault_21 rfl (lv_at hl 0 rfl) ?_
        refine q_get C I 0 5 rfl rfl i_S (by decide) m20_10 rfl d20_S_fault_22 ?_
        refine q_get C I 1 1 rfl rfl i_Flt (by decide) m20_12 rfl d20_S_fault_25 ?_
        refine lv_goto (tgt := 38) hx hb d20_S_fault_28 (by decide) ?_
        have I : q_I D q_cl _ s [] [] _ _ := q_pick I [] [] rfl (by decide) rfl
        exact q_iret C hr I ⟨rfl, rfl, by rw [o_fault, if_neg (fun h : _ ∨ _ => h.elim c1 (fun h => h c6)), if_neg (fun h => h c18)]⟩ (Nat.le_of_ble_eq_true rfl) (Nat.le_of_ble_eq_true rfl) d20_S_fault_38
    · skip
      have I : q_I D q_cl _ s [] [] _ _ := q_pick I [] [] rfl (by decide) rfl
      exact q_throw0 hl9 C hex I fit_Iae fit_names m20_6 m20_7 (tw_Iae m20_8) hl.1 d20_S_fault_9 d20_S_fault_12 d20_S_fault_13 d20_S_fault_16 (Nat.le_of_ble_eq_true rfl) (Nat.le_of_ble_eq_true rfl) (Nat.le_of_ble_eq_true rfl) (Nat.le_of_ble_eq_true rfl) ⟨rfl, rfl, (if_pos (Or.inr c6)).symm⟩ rfl (Nat.le_of_ble_eq_true rfl) (Nat.le_of_ble_eq_true rfl)
set_option maxHeartbeats 4000000 in
set_option maxRecDepth 100000 in
/-- run(n) on a fresh object -/
theorem c_S_run (l : Launch) (D : va_G) (hl9 : l.stackTraces = false) (h0 : Nat) (s_input : Nat) (s_circuit : Nat) (s_spare : Nat) (s_faults : Nat) (s_builder : Nat) (s_stage : Nat) (n : Int32) : q_Met l ⟨"SignalTheatre", "run", "(I)I"⟩ (Cond.code ⟨"SignalTheatre", "run", "(I)I"⟩ prog_1_method_7_code 2 (some .int)) { frames := 6, cells := 1, slots := 6, locals := 81 } D q_cl [.ref h0, .int n] [(h0, .inr (0, [.ref s_input, .int 0, .int 0, .ref s_circuit, .ref s_spare, .ref s_faults, .ref s_builder, .ref s_stage]))] [] (fun r w ty => w = [] ∧ ty = [] ∧ r = o_run n) := by
  refine q_ofW (by decide) ?_
  intro p e s m below meth c C hr hin hex I
  have hx := C.1
  have hb := C.2.1
  have hl := lv_entry ([.ref h0, .int n]) (n := 2) (Nat.le_of_ble_eq_true rfl)
  rw [lg_entry_eq]
  generalize (lg_sl ([.ref h0, .int n]) ++ List.replicate (2 - (lg_sl ([.ref h0, .int n])).length) Slot.unset).toArray = ls at hl ⊢
  have hl : lv_has ls 2 [(0, .ref h0), (1, .int n)] := hl
  refine lv_iload_n hx hb d20_S_run_0 rfl (lv_at hl 1 rfl) ?_
  refine lv_iconst (v := 1) hx hb d20_S_run_1 (by decide) ?_
  refine lv_icmp_lt (tgt := 12) hx hb d20_S_run_2 (by decide) (fun c2 => ?_) (fun c2 => ?_)
  · skip
    have I : q_I D q_cl _ s [] [] _ _ := q_pick I [] [] rfl (by decide) rfl
    exact q_throw0 hl9 C hex I fit_Iae fit_names m20_6 m20_7 (tw_Iae m20_8) hl.1 d20_S_run_12 d20_S_run_15 d20_S_run_16 d20_S_run_19 (Nat.le_of_ble_eq_true rfl) (Nat.le_of_ble_eq_true rfl) (Nat.le_of_ble_eq_true rfl) (Nat.le_of_ble_eq_true rfl) ⟨rfl, rfl, (if_pos (Or.inl c2)).symm⟩ rfl (Nat.le_of_ble_eq_true rfl) (Nat.le_of_ble_eq_true rfl)
  · skip
    refine lv_iload_n hx hb d20_S_run_5 rfl (lv_at hl 1 rfl) ?_
    refine lv_sipush (v := 20000) hx hb d20_S_run_6 (by decide) ?_
    refine lv_icmp_le (tgt := 20) hx hb d20_S_run_9 (by decide) (fun c9 => ?_) (fun c9 => ?_)
    · skip
      refine lv_aload_n hx hb d20_S_run_20 rfl (lv_at hl 0 rfl) ?_
      refine q_get C I 0 2 rfl rfl i_S (by decide) m20_0 rfl d20_S_run_21 ?_
      refine lv_if_ne (tgt := 35) hx hb d20_S_run_24 (by decide) (fun h => absurd h (by decide)) (fun _ => ?_)
      have I : q_I D q_cl _ s [] [] _ _ := q_pick I [] [] rfl (by decide) rfl
      exact q_throw0 hl9 C hex I fit_Ise fit_names m20_13 m20_14 (tw_Ise m20_15) hl.1 d20_S_run_27 d20_S_run_30 d20_S_run_31 d20_S_run_34 (Nat.le_of_ble_eq_true rfl) (Nat.le_of_ble_eq_true rfl) (Nat.le_of_ble_eq_true rfl) (Nat.le_of_ble_eq_true rfl) ⟨rfl, rfl, (if_neg (fun h => h.elim c2 (fun h => h c9))).symm⟩ rfl (Nat.le_of_ble_eq_true rfl) (Nat.le_of_ble_eq_true rfl)
    · skip
      have I : q_I D q_cl _ s [] [] _ _ := q_pick I [] [] rfl (by decide) rfl
      exact q_throw0 hl9 C hex I fit_Iae fit_names m20_6 m20_7 (tw_Iae m20_8) hl.1 d20_S_run_12 d20_S_run_15 d20_S_run_16 d20_S_run_19 (Nat.le_of_ble_eq_true rfl) (Nat.le_of_ble_eq_true rfl) (Nat.le_of_ble_eq_true rfl) (Nat.le_of_ble_eq_true rfl) ⟨rfl, rfl, (if_pos (Or.inr c9)).symm⟩ rfl (Nat.le_of_ble_eq_true rfl) (Nat.le_of_ble_eq_true rfl)
set_option maxHeartbeats 4000000 in
set_option maxRecDepth 100000 in
/-- value(v, w, k) on a fresh object -/
theorem c_S_value (l : Launch) (D : va_G) (hl9 : l.stackTraces = false) (h0 : Nat) (s_input : Nat) (s_circuit : Nat) (s_spare : Nat) (s_faults : Nat) (s_builder : Nat) (s_stage : Nat) (v : Int32) (w : Int32) (k : Int32) : q_Met l ⟨"SignalTheatre", "value", "(III)J"⟩ (Cond.code ⟨"SignalTheatre", "value", "(III)J"⟩ prog_1_method_8_code 5 (some .long)) { frames := 6, cells := 1, slots := 6, locals := 81 } D q_cl [.ref h0, .int v, .int w, .int k] [(h0, .inr (0, [.ref s_input, .int 0, .int 0, .ref s_circuit, .ref s_spare, .ref s_faults, .ref s_builder, .ref s_stage]))] [] (fun r w ty => w = [] ∧ ty = [] ∧ r = o_value k) := by
  refine q_ofW (by decide) ?_
  intro p e s m below meth c C hr hin hex I
  have hx := C.1
  have hb := C.2.1
  have hl := lv_entry ([.ref h0, .int v, .int w, .int k]) (n := 5) (Nat.le_of_ble_eq_true rfl)
  rw [lg_entry_eq]
  generalize (lg_sl ([.ref h0, .int v, .int w, .int k]) ++ List.replicate (5 - (lg_sl ([.ref h0, .int v, .int w, .int k])).length) Slot.unset).toArray = ls at hl ⊢
  have hl : lv_has ls 5 [(0, .ref h0), (1, .int v), (2, .int w), (3, .int k)] := hl
  refine lv_iload_n hx hb d20_S_value_0 rfl (lv_at hl 3 rfl) ?_
  refine lv_if_lt (tgt := 9) hx hb d20_S_value_1 (by decide) (fun c1 => ?_) (fun c1 => ?_)
  · skip
    have I : q_I D q_cl _ s [] [] _ _ := q_pick I [] [] rfl (by decide) rfl
    exact q_throw0 hl9 C hex I fit_Iae fit_names m20_6 m20_7 (tw_Iae m20_8) hl.1 d20_S_value_9 d20_S_value_12 d20_S_value_13 d20_S_value_16 (Nat.le_of_ble_eq_true rfl) (Nat.le_of_ble_eq_true rfl) (Nat.le_of_ble_eq_true rfl) (Nat.le_of_ble_eq_true rfl) ⟨rfl, rfl, (if_pos (Or.inl c1)).symm⟩ rfl (Nat.le_of_ble_eq_true rfl) (Nat.le_of_ble_eq_true rfl)
  · skip
    refine lv_iload_n hx hb d20_S_value_4 rfl (lv_at hl 3 rfl) ?_
    refine lv_iconst (v := 1) hx hb d20_S_value_5 (by decide) ?_
    refine lv_icmp_le (tgt := 17) hx hb d20_S_value_6 (by decide) (fun c6 => ?_) (fun c6 => ?_)
    · skip
      refine lv_aload_n hx hb d20_S_value_17 rfl (lv_at hl 0 rfl) ?_
      refine lv_iload_n hx hb d20_S_value_18 rfl (lv_at hl 1 rfl) ?_
      refine lv_iload_n hx hb d20_S_value_19 rfl (lv_at hl 2 rfl) ?_
      refine q_go (wr := []) (tyr := []) C I (q_siteV (As := [.int v, .int w]) (rest := []) (q0 := 0) C I rfl rfl m20_16 m20_18 m20_19 m20_17 ⟨by decide, by decide⟩ (Eq.trans (b := some 2) (by decide +kernel) rfl) rfl d20_S_value_20) (c_S_isThere l D h0 s_input s_circuit s_spare s_faults s_builder s_stage (v) (w)) m20_17 m20_5 [0] [] [] [] rfl rfl (by decide) (by decide) (by decide) rfl rfl hl.1 d20_S_value_20 (Nat.le_of_ble_eq_true rfl) (Nat.le_of_ble_eq_true rfl) (Nat.le_of_ble_eq_true rfl) (Nat.le_of_ble_eq_true rfl) (fun v w ty H locs hp I => ?_) (fun E w ty H locs q ce hp _ _ _ _ => ?_)
      rotate_left
      · obtain ⟨hv, -⟩ := hp; cases hv
      obtain ⟨hv, rfl, rfl⟩ := hp
      cases hv
      have I : q_I D q_cl _ s [(h0, .inr (0, [.ref s_input, .int 0, .int 0, .ref s_circuit, .ref s_spare, .ref s_faults, .ref s_builder, .ref s_stage]))] [] H _ := I
      refine W.eq (g2 := F0 m 23 ls [.int 0]) rfl ?_
      refine lv_if_ne (tgt := 34) hx hb d20_S_value_23 (by decide) (fun h => absurd h (by decide)) (fun _ => ?_)
      have I : q_I D q_cl _ s [] [] _ _ := q_pick I [] [] rfl (by decide) rfl
      exact q_throw0 hl9 C hex I fit_Nse fit_names m20_20 m20_21 (tw_Nse m20_22) hl.1 d20_S_value_26 d20_S_value_29 d20_S_value_30 d20_S_value_33 (Nat.le_of_ble_eq_true rfl) (Nat.le_of_ble_eq_true rfl) (Nat.le_of_ble_eq_true rfl) (Nat.le_of_ble_eq_true rfl) ⟨rfl, rfl, (if_neg (fun h => h.elim c1 (fun h => h c6))).symm⟩ rfl (Nat.le_of_ble_eq_true rfl) (Nat.le_of_ble_eq_true rfl)
    · skip
      have I : q_I D q_cl _ s [] [] _ _ := q_pick I [] [] rfl (by decide) rfl
      exact q_throw0 hl9 C hex I fit_Iae fit_names m20_6 m20_7 (tw_Iae m20_8) hl.1 d20_S_value_9 d20_S_value_12 d20_S_value_13 d20_S_value_16 (Nat.le_of_ble_eq_true rfl) (Nat.le_of_ble_eq_true rfl) (Nat.le_of_ble_eq_true rfl) (Nat.le_of_ble_eq_true rfl) ⟨rfl, rfl, (if_pos (Or.inr c6)).symm⟩ rfl (Nat.le_of_ble_eq_true rfl) (Nat.le_of_ble_eq_true rfl)
set_option maxHeartbeats 4000000 in
set_option maxRecDepth 100000 in
/-- told(v, k) on a fresh object -/
theorem c_S_told (l : Launch) (D : va_G) (hl9 : l.stackTraces = false) (h0 : Nat) (s_input : Nat) (s_circuit : Nat) (s_spare : Nat) (s_faults : Nat) (s_builder : Nat) (s_stage : Nat) (v : Int32) (k : Int32) : q_Met l ⟨"SignalTheatre", "told", "(II)I"⟩ (Cond.code ⟨"SignalTheatre", "told", "(II)I"⟩ prog_1_method_10_code 4 (some .int)) { frames := 6, cells := 1, slots := 6, locals := 81 } D q_cl [.ref h0, .int v, .int k] [(h0, .inr (0, [.ref s_input, .int 0, .int 0, .ref s_circuit, .ref s_spare, .ref s_faults, .ref s_builder, .ref s_stage]))] [] (fun r w ty => w = [] ∧ ty = [] ∧ r = o_told k) := by
  refine q_ofW (by decide) ?_
  intro p e s m below meth c C hr hin hex I
  have hx := C.1
  have hb := C.2.1
  have hl := lv_entry ([.ref h0, .int v, .int k]) (n := 4) (Nat.le_of_ble_eq_true rfl)
  rw [lg_entry_eq]
  generalize (lg_sl ([.ref h0, .int v, .int k]) ++ List.replicate (4 - (lg_sl ([.ref h0, .int v, .int k])).length) Slot.unset).toArray = ls at hl ⊢
  have hl : lv_has ls 4 [(0, .ref h0), (1, .int v), (2, .int k)] := hl
  refine lv_iload_n hx hb d20_S_told_0 rfl (lv_at hl 2 rfl) ?_
  refine lv_if_lt (tgt := 9) hx hb d20_S_told_1 (by decide) (fun c1 => ?_) (fun c1 => ?_)
  · skip
    have I : q_I D q_cl _ s [] [] _ _ := q_pick I [] [] rfl (by decide) rfl
    exact q_throw0 hl9 C hex I fit_Iae fit_names m20_6 m20_7 (tw_Iae m20_8) hl.1 d20_S_told_9 d20_S_told_12 d20_S_told_13 d20_S_told_16 (Nat.le_of_ble_eq_true rfl) (Nat.le_of_ble_eq_true rfl) (Nat.le_of_ble_eq_true rfl) (Nat.le_of_ble_eq_true rfl) ⟨rfl, rfl, (if_pos (Or.inl c1)).symm⟩ rfl (Nat.le_of_ble_eq_true rfl) (Nat.le_of_ble_eq_true rfl)
  · skip
    refine lv_iload_n hx hb d20_S_told_4 rfl (lv_at hl 2 rfl) ?_
    refine lv_iconst (v := 4) hx hb d20_S_told_5 (by decide) ?_
    refine lv_icmp_le (tgt := 17) hx hb d20_S_told_6 (by decide) (fun c6 => ?_) (fun c6 => ?_)
    · skip
      refine lv_aload_n hx hb d20_S_told_17 rfl (lv_at hl 0 rfl) ?_
      refine lv_iload_n hx hb d20_S_told_18 rfl (lv_at hl 1 rfl) ?_
      refine q_go (wr := []) (tyr := []) C I (q_siteV (As := [.int v]) (rest := []) (q0 := 0) C I rfl rfl m20_1 m20_3 m20_4 m20_2 ⟨by decide, by decide⟩ (Eq.trans (b := some 1) (by decide +kernel) rfl) rfl d20_S_told_19) (c_S_isSignal l D h0 s_input s_circuit s_spare s_faults s_builder s_stage (v)) m20_2 m20_5 [0] [] [] [] rfl rfl (by decide) (by decide) (by decide) rfl rfl hl.1 d20_S_told_19 (Nat.le_of_ble_eq_true rfl) (Nat.le_of_ble_eq_true rfl) (Nat.le_of_ble_eq_true rfl) (Nat.le_of_ble_eq_true rfl) (fun v w ty H locs hp I => ?_) (fun E w ty H locs q ce hp _ _ _ _ => ?_)
      rotate_left
      · obtain ⟨hv, -⟩ := hp; cases hv
      obtain ⟨hv, rfl, rfl⟩ := hp
      cases hv
      have I : q_I D q_cl _ s [(h0, .inr (0, [.ref s_input, .int 0, .int 0, .ref s_circuit, .ref s_spare, .ref s_faults, .ref s_builder, .ref s_stage]))] [] H _ := I
      refine W.eq (g2 := F0 m 22 ls [.int 0]) rfl ?_
      refine lv_if_ne (tgt := 33) hx hb d20_S_told_22 (by decide) (fun h => absurd h (by decide)) (fun _ => ?_)
      have I : q_I D q_cl _ s [] [] _ _ := q_pick I [] [] rfl (by decide) rfl
      exact q_throw0 hl9 C hex I fit_Nse fit_names m20_20 m20_21 (tw_Nse m20_22) hl.1 d20_S_told_25 d20_S_told_28 d20_S_told_29 d20_S_told_32 (Nat.le_of_ble_eq_true rfl) (Nat.le_of_ble_eq_true rfl) (Nat.le_of_ble_eq_true rfl) (Nat.le_of_ble_eq_true rfl) ⟨rfl, rfl, (if_neg (fun h => h.elim c1 (fun h => h c6))).symm⟩ rfl (Nat.le_of_ble_eq_true rfl) (Nat.le_of_ble_eq_true rfl)
    · skip
      have I : q_I D q_cl _ s [] [] _ _ := q_pick I [] [] rfl (by decide) rfl
      exact q_throw0 hl9 C hex I fit_Iae fit_names m20_6 m20_7 (tw_Iae m20_8) hl.1 d20_S_told_9 d20_S_told_12 d20_S_told_13 d20_S_told_16 (Nat.le_of_ble_eq_true rfl) (Nat.le_of_ble_eq_true rfl) (Nat.le_of_ble_eq_true rfl) (Nat.le_of_ble_eq_true rfl) ⟨rfl, rfl, (if_pos (Or.inr c6)).symm⟩ rfl (Nat.le_of_ble_eq_true rfl) (Nat.le_of_ble_eq_true rfl)
set_option maxHeartbeats 4000000 in
set_option maxRecDepth 100000 in
/-- set(..) on a fresh object -/
theorem c_S_set (l : Launch) (D : va_G) (hl9 : l.stackTraces = false) (h0 : Nat) (s_input : Nat) (s_circuit : Nat) (s_spare : Nat) (s_faults : Nat) (s_builder : Nat) (s_stage : Nat) (v : Int32) (w : Int32) (x : Int64) (y : Int64) : q_Met l ⟨"SignalTheatre", "set", "(IIJJ)V"⟩ (Cond.code ⟨"SignalTheatre", "set", "(IIJJ)V"⟩ prog_1_method_9_code 7 none) { frames := 6, cells := 1, slots := 6, locals := 81 } D q_cl [.ref h0, .int v, .int w, .long x, .long y] [(h0, .inr (0, [.ref s_input, .int 0, .int 0, .ref s_circuit, .ref s_spare, .ref s_faults, .ref s_builder, .ref s_stage]))] [] (fun r w ty => w = [] ∧ ty = [] ∧ r = Sum.inr "java/util/NoSuchElementException") := by
  refine q_ofW (by decide) ?_
  intro p e s m below meth c C hr hin hex I
  have hx := C.1
  have hb := C.2.1
  have hl := lv_entry ([.ref h0, .int v, .int w, .long x, .long y]) (n := 7) (Nat.le_of_ble_eq_true rfl)
  rw [lg_entry_eq]
  generalize (lg_sl ([.ref h0, .int v, .int w, .long x, .long y]) ++ List.replicate (7 - (lg_sl ([.ref h0, .int v, .int w, .long x, .long y])).length) Slot.unset).toArray = ls at hl ⊢
  have hl : lv_has ls 7 [(0, .ref h0), (1, .int v), (2, .int w), (3, .long x), (5, .long y)] := hl
  refine lv_aload_n hx hb d20_S_set_0 rfl (lv_at hl 0 rfl) ?_
  refine lv_iload_n hx hb d20_S_set_1 rfl (lv_at hl 1 rfl) ?_
  refine lv_iload_n hx hb d20_S_set_2 rfl (lv_at hl 2 rfl) ?_
  refine q_go (wr := []) (tyr := []) C I (q_siteV (As := [.int v, .int w]) (rest := []) (q0 := 0) C I rfl rfl m20_16 m20_18 m20_19 m20_17 ⟨by decide, by decide⟩ (Eq.trans (b := some 2) (by decide +kernel) rfl) rfl d20_S_set_3) (c_S_isThere l D h0 s_input s_circuit s_spare s_faults s_builder s_stage (v) (w)) m20_17 m20_5 [0] [] [] [] rfl rfl (by decide) (by decide) (by decide) rfl rfl hl.1 d20_S_set_3 (Nat.le_of_ble_eq_true rfl) (Nat.le_of_ble_eq_true rfl) (Nat.le_of_ble_eq_true rfl) (Nat.le_of_ble_eq_true rfl) (fun v w ty H locs hp I => ?_) (fun E w ty H locs q ce hp _ _ _ _ => ?_)
  rotate_left
  · obtain ⟨hv, -⟩ := hp; cases hv
  obtain ⟨hv, rfl, rfl⟩ := hp
  cases hv
  have I : q_I D q_cl _ s [(h0, .inr (0, [.ref s_input, .int 0, .int 0, .ref s_circuit, .ref s_spare, .ref s_faults, .ref s_builder, .ref s_stage]))] [] H _ := I
  refine W.eq (g2 := F0 m 6 ls [.int 0]) rfl ?_
  refine lv_if_eq (tgt := 24) hx hb d20_S_set_6 (by decide) (fun _ => ?_) (fun h => absurd h (by decide))
  have I : q_I D q_cl _ s [] [] _ _ := q_pick I [] [] rfl (by decide) rfl
  exact q_throw0 hl9 C hex I fit_Nse fit_names m20_20 m20_21 (tw_Nse m20_22) hl.1 d20_S_set_24 d20_S_set_27 d20_S_set_28 d20_S_set_31 (Nat.le_of_ble_eq_true rfl) (Nat.le_of_ble_eq_true rfl) (Nat.le_of_ble_eq_true rfl) (Nat.le_of_ble_eq_true rfl) ⟨rfl, rfl, rfl⟩ rfl (Nat.le_of_ble_eq_true rfl) (Nat.le_of_ble_eq_true rfl)
set_option maxHeartbeats 4000000 in
set_option maxRecDepth 100000 in
/-- letter(..) on a fresh object -/
theorem c_S_letter (l : Launch) (D : va_G) (hl9 : l.stackTraces = false) (h0 : Nat) (s_input : Nat) (s_circuit : Nat) (s_spare : Nat) (s_faults : Nat) (s_builder : Nat) (s_stage : Nat) (v : Int32) (i : Int32) : q_Met l ⟨"SignalTheatre", "letter", "(II)I"⟩ (Cond.code ⟨"SignalTheatre", "letter", "(II)I"⟩ prog_1_method_11_code 3 (some .int)) { frames := 6, cells := 1, slots := 6, locals := 81 } D q_cl [.ref h0, .int v, .int i] [(h0, .inr (0, [.ref s_input, .int 0, .int 0, .ref s_circuit, .ref s_spare, .ref s_faults, .ref s_builder, .ref s_stage]))] [] (fun r w ty => w = [] ∧ ty = [] ∧ r = Sum.inr "java/util/NoSuchElementException") := by
  refine q_ofW (by decide) ?_
  intro p e s m below meth c C hr hin hex I
  have hx := C.1
  have hb := C.2.1
  have hl := lv_entry ([.ref h0, .int v, .int i]) (n := 3) (Nat.le_of_ble_eq_true rfl)
  rw [lg_entry_eq]
  generalize (lg_sl ([.ref h0, .int v, .int i]) ++ List.replicate (3 - (lg_sl ([.ref h0, .int v, .int i])).length) Slot.unset).toArray = ls at hl ⊢
  have hl : lv_has ls 3 [(0, .ref h0), (1, .int v), (2, .int i)] := hl
  refine lv_aload_n hx hb d20_S_letter_0 rfl (lv_at hl 0 rfl) ?_
  refine lv_iload_n hx hb d20_S_letter_1 rfl (lv_at hl 1 rfl) ?_
  refine q_go (wr := []) (tyr := []) C I (q_siteV (As := [.int v]) (rest := []) (q0 := 0) C I rfl rfl m20_1 m20_3 m20_4 m20_2 ⟨by decide, by decide⟩ (Eq.trans (b := some 1) (by decide +kernel) rfl) rfl d20_S_letter_2) (c_S_isSignal l D h0 s_input s_circuit s_spare s_faults s_builder s_stage (v)) m20_2 m20_5 [0] [] [] [] rfl rfl (by decide) (by decide) (by decide) rfl rfl hl.1 d20_S_letter_2 (Nat.le_of_ble_eq_true rfl) (Nat.le_of_ble_eq_true rfl) (Nat.le_of_ble_eq_true rfl) (Nat.le_of_ble_eq_true rfl) (fun v w ty H locs hp I => ?_) (fun E w ty H locs q ce hp _ _ _ _ => ?_)
  rotate_left
  · obtain ⟨hv, -⟩ := hp; cases hv
  obtain ⟨hv, rfl, rfl⟩ := hp
  cases hv
  have I : q_I D q_cl _ s [(h0, .inr (0, [.ref s_input, .int 0, .int 0, .ref s_circuit, .ref s_spare, .ref s_faults, .ref s_builder, .ref s_stage]))] [] H _ := I
  refine W.eq (g2 := F0 m 5 ls [.int 0]) rfl ?_
  refine lv_if_eq (tgt := 24) hx hb d20_S_letter_5 (by decide) (fun _ => ?_) (fun h => absurd h (by decide))
  have I : q_I D q_cl _ s [] [] _ _ := q_pick I [] [] rfl (by decide) rfl
  exact q_throw0 hl9 C hex I fit_Nse fit_names m20_20 m20_21 (tw_Nse m20_22) hl.1 d20_S_letter_24 d20_S_letter_27 d20_S_letter_28 d20_S_letter_31 (Nat.le_of_ble_eq_true rfl) (Nat.le_of_ble_eq_true rfl) (Nat.le_of_ble_eq_true rfl) (Nat.le_of_ble_eq_true rfl) ⟨rfl, rfl, rfl⟩ rfl (Nat.le_of_ble_eq_true rfl) (Nat.le_of_ble_eq_true rfl)
set_option maxHeartbeats 4000000 in
set_option maxRecDepth 100000 in
/-- log(i) on a fresh object -/
theorem c_S_log (l : Launch) (D : va_G) (hl9 : l.stackTraces = false) (h0 : Nat) (s_input : Nat) (s_circuit : Nat) (s_spare : Nat) (s_faults : Nat) (s_builder : Nat) (s_stage : Nat) (i : Int32) : q_Met l ⟨"SignalTheatre", "log", "(I)I"⟩ (Cond.code ⟨"SignalTheatre", "log", "(I)I"⟩ prog_1_method_12_code 2 (some .int)) { frames := 6, cells := 1, slots := 6, locals := 81 } D q_cl [.ref h0, .int i] [(h0, .inr (0, [.ref s_input, .int 0, .int 0, .ref s_circuit, .ref s_spare, .ref s_faults, .ref s_builder, .ref s_stage]))] [] (fun r w ty => w = [] ∧ ty = [] ∧ r = Sum.inr "java/lang/IndexOutOfBoundsException") := by
  refine q_ofW (by decide) ?_
  intro p e s m below meth c C hr hin hex I
  have hx := C.1
  have hb := C.2.1
  have hl := lv_entry ([.ref h0, .int i]) (n := 2) (Nat.le_of_ble_eq_true rfl)
  rw [lg_entry_eq]
  generalize (lg_sl ([.ref h0, .int i]) ++ List.replicate (2 - (lg_sl ([.ref h0, .int i])).length) Slot.unset).toArray = ls at hl ⊢
  have hl : lv_has ls 2 [(0, .ref h0), (1, .int i)] := hl
  refine lv_aload_n hx hb d20_S_log_0 rfl (lv_at hl 0 rfl) ?_
  refine q_get C I 0 2 rfl rfl i_S (by decide) m20_0 rfl d20_S_log_1 ?_
  refine lv_if_eq (tgt := 25) hx hb d20_S_log_4 (by decide) (fun _ => ?_) (fun h => absurd h (by decide))
  have I : q_I D q_cl _ s [] [] _ _ := q_pick I [] [] rfl (by decide) rfl
  exact q_throw0 hl9 C hex I fit_Ioob fit_names m20_23 m20_24 (tw_Ioob m20_25) hl.1 d20_S_log_25 d20_S_log_28 d20_S_log_29 d20_S_log_32 (Nat.le_of_ble_eq_true rfl) (Nat.le_of_ble_eq_true rfl) (Nat.le_of_ble_eq_true rfl) (Nat.le_of_ble_eq_true rfl) ⟨rfl, rfl, rfl⟩ rfl (Nat.le_of_ble_eq_true rfl) (Nat.le_of_ble_eq_true rfl)
set_option maxHeartbeats 4000000 in
set_option maxRecDepth 100000 in
/-- time() on a fresh object -/
theorem c_S_time (l : Launch) (D : va_G) (h0 : Nat) (s_input : Nat) (s_circuit : Nat) (s_spare : Nat) (s_faults : Nat) (s_builder : Nat) (s_stage : Nat) : q_Met l ⟨"SignalTheatre", "time", "()J"⟩ (Cond.code ⟨"SignalTheatre", "time", "()J"⟩ prog_1_method_13_code 1 (some .long)) { frames := 0, cells := 0, slots := 0, locals := 0 } D q_cl [.ref h0] [(h0, .inr (0, [.ref s_input, .int 0, .int 0, .ref s_circuit, .ref s_spare, .ref s_faults, .ref s_builder, .ref s_stage]))] [] (fun r w ty => w = [] ∧ ty = [] ∧ r = Sum.inl (some (.long 0))) := by
  refine q_ofW (by decide) ?_
  intro p e s m below meth c C hr hin hex I
  have hx := C.1
  have hb := C.2.1
  have hl := lv_entry ([.ref h0]) (n := 1) (Nat.le_of_ble_eq_true rfl)
  rw [lg_entry_eq]
  generalize (lg_sl ([.ref h0]) ++ List.replicate (1 - (lg_sl ([.ref h0])).length) Slot.unset).toArray = ls at hl ⊢
  have hl : lv_has ls 1 [(0, .ref h0)] := hl
  refine lv_aload_n hx hb d20_S_time_0 rfl (lv_at hl 0 rfl) ?_
  refine q_get C I 0 2 rfl rfl i_S (by decide) m20_0 rfl d20_S_time_1 ?_
  refine lv_if_eq (tgt := 20) hx hb d20_S_time_4 (by decide) (fun _ => ?_) (fun h => absurd h (by decide))
  refine lv_lconst (v := 0) hx hb d20_S_time_20 (by decide) ?_
  have I : q_I D q_cl _ s [] [] _ _ := q_pick I [] [] rfl (by decide) rfl
  exact q_lret C hr I ⟨rfl, rfl, rfl⟩ (Nat.le_of_ble_eq_true rfl) (Nat.le_of_ble_eq_true rfl) d20_S_time_21
set_option maxHeartbeats 4000000 in
set_option maxRecDepth 100000 in
/-- count(w) on a fresh object -/
theorem c_S_count (l : Launch) (D : va_G) (h0 : Nat) (s_input : Nat) (s_circuit : Nat) (s_spare : Nat) (s_faults : Nat) (s_builder : Nat) (s_stage : Nat) (k : Int32) : q_Met l ⟨"SignalTheatre", "count", "(I)I"⟩ (Cond.code ⟨"SignalTheatre", "count", "(I)I"⟩ prog_1_method_14_code 2 (some .int)) { frames := 0, cells := 0, slots := 0, locals := 0 } D q_cl [.ref h0, .int k] [(h0, .inr (0, [.ref s_input, .int 0, .int 0, .ref s_circuit, .ref s_spare, .ref s_faults, .ref s_builder, .ref s_stage]))] [] (fun r w ty => w = [] ∧ ty = [] ∧ r = Sum.inl (some (.int (o_count k)))) := by
  refine q_ofW (by decide) ?_
  intro p e s m below meth c C hr hin hex I
  have hx := C.1
  have hb := C.2.1
  have hl := lv_entry ([.ref h0, .int k]) (n := 2) (Nat.le_of_ble_eq_true rfl)
  rw [lg_entry_eq]
  generalize (lg_sl ([.ref h0, .int k]) ++ List.replicate (2 - (lg_sl ([.ref h0, .int k])).length) Slot.unset).toArray = ls at hl ⊢
  have hl : lv_has ls 2 [(0, .ref h0), (1, .int k)] := hl
  refine lv_iload_n hx hb d20_S_count_0 rfl (lv_at hl 1 rfl) ?_
  refine lv_if_ne (tgt := 9) hx hb d20_S_count_1 (by decide) (fun c1 => ?_) (fun c1 => ?_)
  · skip
    refine lv_iload_n hx hb d20_S_count_9 rfl (lv_at hl 1 rfl) ?_
    refine lv_if_lt (tgt := 19) hx hb d20_S_count_10 (by decide) (fun c10 => ?_) (fun c10 => ?_)
    · skip
      refine lv_iconst (v := -1) hx hb d20_S_count_19 (by decide) ?_
      have I : q_I D q_cl _ s [] [] _ _ := q_pick I [] [] rfl (by decide) rfl
      exact q_iret C hr I ⟨rfl, rfl, by rw [o_count, if_pos c1, if_pos (Or.inl c10)]⟩ (Nat.le_of_ble_eq_true rfl) (Nat.le_of_ble_eq_true rfl) d20_S_count_20
    · skip
      refine lv_iload_n hx hb d20_S_count_13 rfl (lv_at hl 1 rfl) ?_
      refine lv_bipush (v := 11) hx hb d20_S_count_14 (by decide) ?_
      refine lv_icmp_le (tgt := 21) hx hb d20_S_count_16 (by decide) (fun c16 => ?_) (fun c16 => ?_)
      · skip
        refine lv_aload_n hx hb d20_S_count_21 rfl (lv_at hl 0 rfl) ?_
        refine q_get C I 0 2 rfl rfl i_S (by decide) m20_0 rfl d20_S_count_22 ?_
        refine lv_if_eq (tgt := 39) hx hb d20_S_count_25 (by decide) (fun _ => ?_) (fun h => absurd h (by decide))
        refine lv_iconst (v := 0) hx hb d20_S_count_39 (by decide) ?_
        have I : q_I D q_cl _ s [] [] _ _ := q_pick I [] [] rfl (by decide) rfl
        exact q_iret C hr I ⟨rfl, rfl, by rw [o_count, if_pos c1, if_neg (fun h : _ ∨ _ => h.elim c10 (fun h => h c16))]⟩ (Nat.le_of_ble_eq_true rfl) (Nat.le_of_ble_eq_true rfl) d20_S_count_40
      · skip
        refine lv_iconst (v := -1) hx hb d20_S_count_19 (by decide) ?_
        have I : q_I D q_cl _ s [] [] _ _ := q_pick I [] [] rfl (by decide) rfl
        exact q_iret C hr I ⟨rfl, rfl, by rw [o_count, if_pos c1, if_pos (Or.inr c16)]⟩ (Nat.le_of_ble_eq_true rfl) (Nat.le_of_ble_eq_true rfl) d20_S_count_20
  · skip
    refine lv_aload_n hx hb d20_S_count_4 rfl (lv_at hl 0 rfl) ?_
    refine q_get C I 0 1 rfl rfl i_S (by decide) m20_9 rfl d20_S_count_5 ?_
    have I : q_I D q_cl _ s [] [] _ _ := q_pick I [] [] rfl (by decide) rfl
    exact q_iret C hr I ⟨rfl, rfl, by rw [o_count, if_neg (fun h => h c1)]⟩ (Nat.le_of_ble_eq_true rfl) (Nat.le_of_ble_eq_true rfl) d20_S_count_8
