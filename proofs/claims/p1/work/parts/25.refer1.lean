set_option maxRecDepth 20000 in
theorem m25_0 : (Cond.fieldLink "SignalTheatreModel" 44 "SignalTheatreModel" "thrown" "I" : Cond) ∈ q_big := q_m13 (List.mem_of_getElem? (i := 170) rfl) rfl
set_option maxRecDepth 20000 in
theorem m25_1 : (Cond.fieldLink "SignalTheatreModel" 37 "SignalTheatreModel" "circuit" "LSignalTheatreModel$Circuit;" : Cond) ∈ q_big := q_m13 (List.mem_of_getElem? (i := 177) rfl) rfl
set_option maxRecDepth 20000 in
theorem m25_2 : (Cond.fieldLink "SignalTheatreModel" 69 "SignalTheatreModel$Circuit" "vars" "I" : Cond) ∈ q_big := q_m12 (List.mem_of_getElem? (i := 121) rfl) rfl
set_option maxRecDepth 20000 in
theorem m25_3 : (Cond.fieldLink "SignalTheatreModel" 47 "SignalTheatreModel" "size" "I" : Cond) ∈ q_big := q_m13 (List.mem_of_getElem? (i := 169) rfl) rfl
set_option maxRecDepth 20000 in
theorem m25_4 : (Cond.fieldLink "SignalTheatreModel" 14 "SignalTheatreModel" "faultPlace" "I" : Cond) ∈ q_big := q_m13 (List.mem_of_getElem? (i := 172) rfl) rfl
set_option maxRecDepth 20000 in
theorem m25_5 : (Cond.fieldLink "SignalTheatreModel" 63 "SignalTheatreModel" "faultNumber" "I" : Cond) ∈ q_big := q_m13 (List.mem_of_getElem? (i := 171) rfl) rfl
set_option maxRecDepth 20000 in
theorem m25_6 : (Cond.fieldLink "SignalTheatreModel" 72 "SignalTheatreModel$Circuit" "there" "Z" : Cond) ∈ q_big := q_m12 (List.mem_of_getElem? (i := 93) rfl) rfl
set_option maxRecDepth 20000 in
theorem m25_7 : (Cond.methodLink "SignalTheatreModel" 84 ⟨"SignalTheatreModel", "isThere", "(II)Z"⟩ : Cond) ∈ q_big := q_m17 (List.mem_of_getElem? (i := 113) rfl) rfl
set_option maxRecDepth 20000 in
theorem m25_8 : (Cond.code ⟨"SignalTheatreModel", "isThere", "(II)Z"⟩ prog_15_method_9_code 3 (Option.some FieldType.boolean) : Cond) ∈ q_big := q_m17 (List.mem_of_getElem? (i := 116) rfl) rfl
set_option maxRecDepth 20000 in
theorem m25_9 : (Cond.instanceMethod ⟨"SignalTheatreModel", "isThere", "(II)Z"⟩ : Cond) ∈ q_big := q_m17 (List.mem_of_getElem? (i := 115) rfl) rfl
set_option maxRecDepth 20000 in
theorem m25_10 : (Cond.selects "SignalTheatreModel" ⟨"SignalTheatreModel", "isThere", "(II)Z"⟩ ⟨"SignalTheatreModel", "isThere", "(II)Z"⟩ : Cond) ∈ q_big := q_sel (q := (⟨"SignalTheatreModel", "isThere", "(II)Z"⟩, 11)) (List.mem_of_getElem? (i := 7) rfl)
set_option maxRecDepth 20000 in
theorem m25_11 : (Cond.initialized "SignalTheatreModel" : Cond) ∈ q_big := q_m1 (List.mem_of_getElem? (i := 14) rfl) rfl
set_option maxRecDepth 20000 in
theorem m25_12 : (Cond.fieldLink "SignalTheatreModel" 116 "SignalTheatreModel$Circuit" "logged" "I" : Cond) ∈ q_big := q_m12 (List.mem_of_getElem? (i := 180) rfl) rfl
set_option maxRecDepth 20000 in
theorem m25_13 : (Cond.fieldLink "SignalTheatreModel" 122 "SignalTheatreModel$Circuit" "time" "J" : Cond) ∈ q_big := q_m12 (List.mem_of_getElem? (i := 151) rfl) rfl
set_option maxRecDepth 20000 in
theorem m25_14 : (Cond.fieldLink "SignalTheatreModel$Circuit" 582 "SignalTheatreModel$Circuit" "cost" "I" : Cond) ∈ q_big := q_m12 (List.mem_of_getElem? (i := 176) rfl) rfl
set_option maxRecDepth 20000 in
theorem m25_15 : (Cond.fieldLink "SignalTheatreModel$Circuit" 476 "SignalTheatreModel$Circuit" "processes" "I" : Cond) ∈ q_big := q_m12 (List.mem_of_getElem? (i := 137) rfl) rfl
set_option maxRecDepth 20000 in
theorem m25_16 : (Cond.fieldLink "SignalTheatreModel" 126 "SignalTheatreModel$Circuit" "drives" "I" : Cond) ∈ q_big := q_m12 (List.mem_of_getElem? (i := 134) rfl) rfl
set_option maxRecDepth 20000 in
theorem m25_17 : (Cond.fieldLink "SignalTheatreModel" 129 "SignalTheatreModel$Circuit" "processes" "I" : Cond) ∈ q_big := q_m12 (List.mem_of_getElem? (i := 136) rfl) rfl
set_option maxRecDepth 20000 in
theorem m25_18 : (Cond.methodLink "SignalTheatreModel" 132 ⟨"SignalTheatreModel$Circuit", "cost", "()I"⟩ : Cond) ∈ q_big := q_m17 (List.mem_of_getElem? (i := 160) rfl) rfl
set_option maxRecDepth 20000 in
theorem m25_19 : (Cond.code ⟨"SignalTheatreModel$Circuit", "cost", "()I"⟩ prog_16_method_134_code 1 (Option.some FieldType.int) : Cond) ∈ q_big := q_m17 (List.mem_of_getElem? (i := 163) rfl) rfl
set_option maxRecDepth 20000 in
theorem m25_20 : (Cond.instanceMethod ⟨"SignalTheatreModel$Circuit", "cost", "()I"⟩ : Cond) ∈ q_big := q_m17 (List.mem_of_getElem? (i := 161) rfl) rfl
set_option maxRecDepth 20000 in
theorem m25_21 : (Cond.selects "SignalTheatreModel$Circuit" ⟨"SignalTheatreModel$Circuit", "cost", "()I"⟩ ⟨"SignalTheatreModel$Circuit", "cost", "()I"⟩ : Cond) ∈ q_big := q_m17 (List.mem_of_getElem? (i := 162) rfl) rfl
set_option maxRecDepth 20000 in
theorem m25_22 : (Cond.initialized "SignalTheatreModel$Circuit" : Cond) ∈ q_big := q_m1 (List.mem_of_getElem? (i := 21) rfl) rfl
set_option maxRecDepth 20000 in
theorem m25_23 : (Cond.fieldLink "SignalTheatreModel" 136 "SignalTheatreModel$Circuit" "active" "LSignalTheatreModel$Circuit$Row;" : Cond) ∈ q_big := q_m12 (List.mem_of_getElem? (i := 158) rfl) rfl
set_option maxRecDepth 20000 in
theorem m25_24 : (Cond.fieldLink "SignalTheatreModel" 140 "SignalTheatreModel$Circuit$Row" "many" "I" : Cond) ∈ q_big := q_m12 (List.mem_of_getElem? (i := 69) rfl) rfl
set_option maxRecDepth 20000 in
theorem m25_25 : (Cond.fieldLink "SignalTheatreModel" 145 "SignalTheatreModel$Circuit" "inactive" "LSignalTheatreModel$Circuit$Row;" : Cond) ∈ q_big := q_m12 (List.mem_of_getElem? (i := 160) rfl) rfl
set_option maxRecDepth 20000 in
theorem m25_26 : (Cond.fieldLink "SignalTheatreModel" 148 "SignalTheatreModel$Circuit" "later" "LSignalTheatreModel$Circuit$Row;" : Cond) ∈ q_big := q_m12 (List.mem_of_getElem? (i := 162) rfl) rfl
set_option maxRecDepth 20000 in
theorem m25_27 : (Cond.fieldLink "SignalTheatreModel" 151 "SignalTheatreModel$Circuit" "future" "LSignalTheatreModel$Circuit$Row;" : Cond) ∈ q_big := q_m12 (List.mem_of_getElem? (i := 164) rfl) rfl
set_option maxRecDepth 20000 in
theorem m25_28 : (Cond.methodLink "SignalTheatreModel" 154 ⟨"SignalTheatreModel$Circuit", "processesIn", "(I)I"⟩ : Cond) ∈ q_big := q_m17 (List.mem_of_getElem? (i := 164) rfl) rfl
set_option maxRecDepth 20000 in
theorem m25_29 : (Cond.code ⟨"SignalTheatreModel$Circuit", "processesIn", "(I)I"⟩ prog_16_method_135_code 4 (Option.some FieldType.int) : Cond) ∈ q_big := q_m17 (List.mem_of_getElem? (i := 167) rfl) rfl
set_option maxRecDepth 20000 in
theorem m25_30 : (Cond.instanceMethod ⟨"SignalTheatreModel$Circuit", "processesIn", "(I)I"⟩ : Cond) ∈ q_big := q_m17 (List.mem_of_getElem? (i := 165) rfl) rfl
set_option maxRecDepth 20000 in
theorem m25_31 : (Cond.selects "SignalTheatreModel$Circuit" ⟨"SignalTheatreModel$Circuit", "processesIn", "(I)I"⟩ ⟨"SignalTheatreModel$Circuit", "processesIn", "(I)I"⟩ : Cond) ∈ q_big := q_m17 (List.mem_of_getElem? (i := 166) rfl) rfl
theorem d25_Mod_thrown_0 : decode prog_15_method_2_code 0 = .ok (.aload_n 0, 1) := by decide +kernel
theorem d25_Mod_thrown_1 : decode prog_15_method_2_code 1 = .ok (.getfield 44, 3) := by decide +kernel
theorem d25_Mod_thrown_4 : decode prog_15_method_2_code 4 = .ok (.ireturn, 1) := by decide +kernel
theorem d25_Mod_isThere_0 : decode prog_15_method_9_code 0 = .ok (.iload_n 1, 1) := by decide +kernel
theorem d25_Mod_isThere_1 : decode prog_15_method_9_code 1 = .ok (.ifCond .lt 39, 3) := by decide +kernel
theorem d25_Mod_isThere_40 : decode prog_15_method_9_code 40 = .ok (.iconst 0, 1) := by decide +kernel
theorem d25_Mod_isThere_41 : decode prog_15_method_9_code 41 = .ok (.ireturn, 1) := by decide +kernel
theorem d25_Mod_isThere_4 : decode prog_15_method_9_code 4 = .ok (.iload_n 1, 1) := by decide +kernel
theorem d25_Mod_isThere_5 : decode prog_15_method_9_code 5 = .ok (.aload_n 0, 1) := by decide +kernel
theorem d25_Mod_isThere_6 : decode prog_15_method_9_code 6 = .ok (.getfield 37, 3) := by decide +kernel
theorem d25_Mod_isThere_9 : decode prog_15_method_9_code 9 = .ok (.getfield 69, 3) := by decide +kernel
theorem d25_Mod_isThere_12 : decode prog_15_method_9_code 12 = .ok (.if_icmp .ge 28, 3) := by decide +kernel
theorem d25_Mod_end_0 : decode prog_15_method_5_code 0 = .ok (.aload_n 0, 1) := by decide +kernel
theorem d25_Mod_end_1 : decode prog_15_method_5_code 1 = .ok (.iconst 0, 1) := by decide +kernel
theorem d25_Mod_end_2 : decode prog_15_method_5_code 2 = .ok (.putfield 44, 3) := by decide +kernel
theorem d25_Mod_end_5 : decode prog_15_method_5_code 5 = .ok (.iload_n 1, 1) := by decide +kernel
theorem d25_Mod_end_6 : decode prog_15_method_5_code 6 = .ok (.ifCond .lt 11, 3) := by decide +kernel
theorem d25_Mod_end_17 : decode prog_15_method_5_code 17 = .ok (.aload_n 0, 1) := by decide +kernel
theorem d25_Mod_end_18 : decode prog_15_method_5_code 18 = .ok (.iconst 1, 1) := by decide +kernel
theorem d25_Mod_end_19 : decode prog_15_method_5_code 19 = .ok (.putfield 44, 3) := by decide +kernel
theorem d25_Mod_end_22 : decode prog_15_method_5_code 22 = .ok (.iconst 0, 1) := by decide +kernel
theorem d25_Mod_end_23 : decode prog_15_method_5_code 23 = .ok (.ireturn, 1) := by decide +kernel
theorem d25_Mod_end_9 : decode prog_15_method_5_code 9 = .ok (.iload_n 1, 1) := by decide +kernel
theorem d25_Mod_end_10 : decode prog_15_method_5_code 10 = .ok (.aload_n 0, 1) := by decide +kernel
theorem d25_Mod_end_11 : decode prog_15_method_5_code 11 = .ok (.getfield 47, 3) := by decide +kernel
theorem d25_Mod_end_14 : decode prog_15_method_5_code 14 = .ok (.if_icmp .le 10, 3) := by decide +kernel
theorem d25_Mod_end_24 : decode prog_15_method_5_code 24 = .ok (.aload_n 0, 1) := by decide +kernel
theorem d25_Mod_end_25 : decode prog_15_method_5_code 25 = .ok (.dup, 1) := by decide +kernel
theorem d25_Mod_end_26 : decode prog_15_method_5_code 26 = .ok (.getfield 47, 3) := by decide +kernel
theorem d25_Mod_end_29 : decode prog_15_method_5_code 29 = .ok (.iload_n 1, 1) := by decide +kernel
theorem d25_Mod_end_30 : decode prog_15_method_5_code 30 = .ok (.isub, 1) := by decide +kernel
theorem d25_Mod_end_31 : decode prog_15_method_5_code 31 = .ok (.putfield 47, 3) := by decide +kernel
theorem d25_Mod_end_34 : decode prog_15_method_5_code 34 = .ok (.aload_n 0, 1) := by decide +kernel
theorem d25_Mod_end_35 : decode prog_15_method_5_code 35 = .ok (.getfield 47, 3) := by decide +kernel
theorem d25_Mod_end_38 : decode prog_15_method_5_code 38 = .ok (.ireturn, 1) := by decide +kernel
theorem d25_Mod_fault_0 : decode prog_15_method_7_code 0 = .ok (.aload_n 0, 1) := by decide +kernel
theorem d25_Mod_fault_1 : decode prog_15_method_7_code 1 = .ok (.iload_n 1, 1) := by decide +kernel
theorem d25_Mod_fault_2 : decode prog_15_method_7_code 2 = .ok (.ifCond .lt 8, 3) := by decide +kernel
theorem d25_Mod_fault_10 : decode prog_15_method_7_code 10 = .ok (.iconst 1, 1) := by decide +kernel
theorem d25_Mod_fault_11 : decode prog_15_method_7_code 11 = .ok (.goto 4, 3) := by decide +kernel
theorem d25_Mod_fault_15 : decode prog_15_method_7_code 15 = .ok (.putfield 44, 3) := by decide +kernel
theorem d25_Mod_fault_18 : decode prog_15_method_7_code 18 = .ok (.iload_n 1, 1) := by decide +kernel
theorem d25_Mod_fault_19 : decode prog_15_method_7_code 19 = .ok (.ifCond .ne 10, 3) := by decide +kernel
theorem d25_Mod_fault_29 : decode prog_15_method_7_code 29 = .ok (.iload_n 1, 1) := by decide +kernel
theorem d25_Mod_fault_30 : decode prog_15_method_7_code 30 = .ok (.iconst 1, 1) := by decide +kernel
theorem d25_Mod_fault_31 : decode prog_15_method_7_code 31 = .ok (.if_icmp .ne 10, 3) := by decide +kernel
theorem d25_Mod_fault_41 : decode prog_15_method_7_code 41 = .ok (.iconst 0, 1) := by decide +kernel
theorem d25_Mod_fault_42 : decode prog_15_method_7_code 42 = .ok (.ireturn, 1) := by decide +kernel
theorem d25_Mod_fault_34 : decode prog_15_method_7_code 34 = .ok (.aload_n 0, 1) := by decide +kernel
theorem d25_Mod_fault_35 : decode prog_15_method_7_code 35 = .ok (.getfield 14, 3) := by decide +kernel
theorem d25_Mod_fault_38 : decode prog_15_method_7_code 38 = .ok (.goto 4, 3) := by decide +kernel
theorem d25_Mod_fault_22 : decode prog_15_method_7_code 22 = .ok (.aload_n 0, 1) := by decide +kernel
theorem d25_Mod_fault_23 : decode prog_15_method_7_code 23 = .ok (.getfield 63, 3) := by decide +kernel
theorem d25_Mod_fault_26 : decode prog_15_method_7_code 26 = .ok (.goto 16, 3) := by decide +kernel
theorem d25_Mod_fault_5 : decode prog_15_method_7_code 5 = .ok (.iload_n 1, 1) := by decide +kernel
theorem d25_Mod_fault_6 : decode prog_15_method_7_code 6 = .ok (.iconst 1, 1) := by decide +kernel
theorem d25_Mod_fault_7 : decode prog_15_method_7_code 7 = .ok (.if_icmp .le 7, 3) := by decide +kernel
theorem d25_Mod_fault_14 : decode prog_15_method_7_code 14 = .ok (.iconst 0, 1) := by decide +kernel
theorem d25_Mod_run_0 : decode prog_15_method_8_code 0 = .ok (.aload_n 0, 1) := by decide +kernel
theorem d25_Mod_run_1 : decode prog_15_method_8_code 1 = .ok (.iload_n 1, 1) := by decide +kernel
theorem d25_Mod_run_2 : decode prog_15_method_8_code 2 = .ok (.iconst 1, 1) := by decide +kernel
theorem d25_Mod_run_3 : decode prog_15_method_8_code 3 = .ok (.if_icmp .lt 10, 3) := by decide +kernel
theorem d25_Mod_run_13 : decode prog_15_method_8_code 13 = .ok (.iconst 1, 1) := by decide +kernel
theorem d25_Mod_run_14 : decode prog_15_method_8_code 14 = .ok (.goto 18, 3) := by decide +kernel
theorem d25_Mod_run_32 : decode prog_15_method_8_code 32 = .ok (.putfield 44, 3) := by decide +kernel
theorem d25_Mod_run_35 : decode prog_15_method_8_code 35 = .ok (.aload_n 0, 1) := by decide +kernel
theorem d25_Mod_run_36 : decode prog_15_method_8_code 36 = .ok (.getfield 44, 3) := by decide +kernel
theorem d25_Mod_run_39 : decode prog_15_method_8_code 39 = .ok (.ifCond .le 7, 3) := by decide +kernel
theorem d25_Mod_run_42 : decode prog_15_method_8_code 42 = .ok (.iconst 0, 1) := by decide +kernel
theorem d25_Mod_run_43 : decode prog_15_method_8_code 43 = .ok (.goto 11, 3) := by decide +kernel
theorem d25_Mod_run_54 : decode prog_15_method_8_code 54 = .ok (.ireturn, 1) := by decide +kernel
theorem d25_Mod_run_6 : decode prog_15_method_8_code 6 = .ok (.iload_n 1, 1) := by decide +kernel
theorem d25_Mod_run_7 : decode prog_15_method_8_code 7 = .ok (.sipush 20000, 3) := by decide +kernel
theorem d25_Mod_run_10 : decode prog_15_method_8_code 10 = .ok (.if_icmp .le 7, 3) := by decide +kernel
theorem d25_Mod_run_17 : decode prog_15_method_8_code 17 = .ok (.aload_n 0, 1) := by decide +kernel
theorem d25_Mod_run_18 : decode prog_15_method_8_code 18 = .ok (.getfield 37, 3) := by decide +kernel
theorem d25_Mod_run_21 : decode prog_15_method_8_code 21 = .ok (.getfield 72, 3) := by decide +kernel
theorem d25_Mod_run_24 : decode prog_15_method_8_code 24 = .ok (.ifCond .ne 7, 3) := by decide +kernel
theorem d25_Mod_run_27 : decode prog_15_method_8_code 27 = .ok (.iconst 2, 1) := by decide +kernel
theorem d25_Mod_run_28 : decode prog_15_method_8_code 28 = .ok (.goto 4, 3) := by decide +kernel
theorem d25_Mod_value_0 : decode prog_15_method_10_code 0 = .ok (.aload_n 0, 1) := by decide +kernel
theorem d25_Mod_value_1 : decode prog_15_method_10_code 1 = .ok (.iload_n 3, 1) := by decide +kernel
theorem d25_Mod_value_2 : decode prog_15_method_10_code 2 = .ok (.ifCond .lt 8, 3) := by decide +kernel
theorem d25_Mod_value_10 : decode prog_15_method_10_code 10 = .ok (.iconst 1, 1) := by decide +kernel
theorem d25_Mod_value_11 : decode prog_15_method_10_code 11 = .ok (.goto 17, 3) := by decide +kernel
theorem d25_Mod_value_28 : decode prog_15_method_10_code 28 = .ok (.putfield 44, 3) := by decide +kernel
theorem d25_Mod_value_31 : decode prog_15_method_10_code 31 = .ok (.aload_n 0, 1) := by decide +kernel
theorem d25_Mod_value_32 : decode prog_15_method_10_code 32 = .ok (.getfield 44, 3) := by decide +kernel
theorem d25_Mod_value_35 : decode prog_15_method_10_code 35 = .ok (.ifCond .le 7, 3) := by decide +kernel
theorem d25_Mod_value_38 : decode prog_15_method_10_code 38 = .ok (.lconst 0, 1) := by decide +kernel
theorem d25_Mod_value_39 : decode prog_15_method_10_code 39 = .ok (.goto 13, 3) := by decide +kernel
theorem d25_Mod_value_52 : decode prog_15_method_10_code 52 = .ok (.lreturn, 1) := by decide +kernel
theorem d25_Mod_value_5 : decode prog_15_method_10_code 5 = .ok (.iload_n 3, 1) := by decide +kernel
theorem d25_Mod_value_6 : decode prog_15_method_10_code 6 = .ok (.iconst 1, 1) := by decide +kernel
theorem d25_Mod_value_7 : decode prog_15_method_10_code 7 = .ok (.if_icmp .le 7, 3) := by decide +kernel
theorem d25_Mod_value_14 : decode prog_15_method_10_code 14 = .ok (.aload_n 0, 1) := by decide +kernel
theorem d25_Mod_value_15 : decode prog_15_method_10_code 15 = .ok (.iload_n 1, 1) := by decide +kernel
theorem d25_Mod_value_16 : decode prog_15_method_10_code 16 = .ok (.iload_n 2, 1) := by decide +kernel
theorem d25_Mod_value_17 : decode prog_15_method_10_code 17 = .ok (.invokevirtual 84, 3) := by decide +kernel
theorem d25_Mod_value_20 : decode prog_15_method_10_code 20 = .ok (.ifCond .ne 7, 3) := by decide +kernel
theorem d25_Mod_value_23 : decode prog_15_method_10_code 23 = .ok (.iconst 2, 1) := by decide +kernel
theorem d25_Mod_value_24 : decode prog_15_method_10_code 24 = .ok (.goto 4, 3) := by decide +kernel
theorem d25_Mod_told_0 : decode prog_15_method_12_code 0 = .ok (.aload_n 0, 1) := by decide +kernel
theorem d25_Mod_told_1 : decode prog_15_method_12_code 1 = .ok (.iload_n 2, 1) := by decide +kernel
theorem d25_Mod_told_2 : decode prog_15_method_12_code 2 = .ok (.ifCond .lt 8, 3) := by decide +kernel
theorem d25_Mod_told_10 : decode prog_15_method_12_code 10 = .ok (.iconst 1, 1) := by decide +kernel
theorem d25_Mod_told_11 : decode prog_15_method_12_code 11 = .ok (.goto 17, 3) := by decide +kernel
theorem d25_Mod_told_28 : decode prog_15_method_12_code 28 = .ok (.putfield 44, 3) := by decide +kernel
theorem d25_Mod_told_31 : decode prog_15_method_12_code 31 = .ok (.aload_n 0, 1) := by decide +kernel
theorem d25_Mod_told_32 : decode prog_15_method_12_code 32 = .ok (.getfield 44, 3) := by decide +kernel
theorem d25_Mod_told_35 : decode prog_15_method_12_code 35 = .ok (.ifCond .le 5, 3) := by decide +kernel
theorem d25_Mod_told_38 : decode prog_15_method_12_code 38 = .ok (.iconst 0, 1) := by decide +kernel
theorem d25_Mod_told_39 : decode prog_15_method_12_code 39 = .ok (.ireturn, 1) := by decide +kernel
theorem d25_Mod_told_5 : decode prog_15_method_12_code 5 = .ok (.iload_n 2, 1) := by decide +kernel
theorem d25_Mod_told_6 : decode prog_15_method_12_code 6 = .ok (.iconst 4, 1) := by decide +kernel
theorem d25_Mod_told_7 : decode prog_15_method_12_code 7 = .ok (.if_icmp .le 7, 3) := by decide +kernel
theorem d25_Mod_told_14 : decode prog_15_method_12_code 14 = .ok (.aload_n 0, 1) := by decide +kernel
theorem d25_Mod_told_15 : decode prog_15_method_12_code 15 = .ok (.iload_n 1, 1) := by decide +kernel
theorem d25_Mod_told_16 : decode prog_15_method_12_code 16 = .ok (.iconst 0, 1) := by decide +kernel
theorem d25_Mod_told_17 : decode prog_15_method_12_code 17 = .ok (.invokevirtual 84, 3) := by decide +kernel
theorem d25_Mod_told_20 : decode prog_15_method_12_code 20 = .ok (.ifCond .ne 7, 3) := by decide +kernel
theorem d25_Mod_told_23 : decode prog_15_method_12_code 23 = .ok (.iconst 2, 1) := by decide +kernel
theorem d25_Mod_told_24 : decode prog_15_method_12_code 24 = .ok (.goto 4, 3) := by decide +kernel
theorem d25_Mod_set_0 : decode prog_15_method_11_code 0 = .ok (.aload_n 0, 1) := by decide +kernel
theorem d25_Mod_set_1 : decode prog_15_method_11_code 1 = .ok (.aload_n 0, 1) := by decide +kernel
theorem d25_Mod_set_2 : decode prog_15_method_11_code 2 = .ok (.iload_n 1, 1) := by decide +kernel
theorem d25_Mod_set_3 : decode prog_15_method_11_code 3 = .ok (.iload_n 2, 1) := by decide +kernel
theorem d25_Mod_set_4 : decode prog_15_method_11_code 4 = .ok (.invokevirtual 84, 3) := by decide +kernel
theorem d25_Mod_set_7 : decode prog_15_method_11_code 7 = .ok (.ifCond .eq 15, 3) := by decide +kernel
theorem d25_Mod_set_22 : decode prog_15_method_11_code 22 = .ok (.iconst 1, 1) := by decide +kernel
theorem d25_Mod_set_23 : decode prog_15_method_11_code 23 = .ok (.goto 4, 3) := by decide +kernel
theorem d25_Mod_set_27 : decode prog_15_method_11_code 27 = .ok (.putfield 44, 3) := by decide +kernel
theorem d25_Mod_set_30 : decode prog_15_method_11_code 30 = .ok (.aload_n 0, 1) := by decide +kernel
theorem d25_Mod_set_31 : decode prog_15_method_11_code 31 = .ok (.getfield 44, 3) := by decide +kernel
theorem d25_Mod_set_34 : decode prog_15_method_11_code 34 = .ok (.ifCond .ne 27, 3) := by decide +kernel
theorem d25_Mod_set_61 : decode prog_15_method_11_code 61 = .ok (.return_, 1) := by decide +kernel
theorem d25_Mod_letter_0 : decode prog_15_method_13_code 0 = .ok (.aload_n 0, 1) := by decide +kernel
theorem d25_Mod_letter_1 : decode prog_15_method_13_code 1 = .ok (.aload_n 0, 1) := by decide +kernel
theorem d25_Mod_letter_2 : decode prog_15_method_13_code 2 = .ok (.iload_n 1, 1) := by decide +kernel
theorem d25_Mod_letter_3 : decode prog_15_method_13_code 3 = .ok (.iconst 0, 1) := by decide +kernel
theorem d25_Mod_letter_4 : decode prog_15_method_13_code 4 = .ok (.invokevirtual 84, 3) := by decide +kernel
theorem d25_Mod_letter_7 : decode prog_15_method_13_code 7 = .ok (.ifCond .eq 19, 3) := by decide +kernel
theorem d25_Mod_letter_26 : decode prog_15_method_13_code 26 = .ok (.iconst 1, 1) := by decide +kernel
theorem d25_Mod_letter_27 : decode prog_15_method_13_code 27 = .ok (.goto 4, 3) := by decide +kernel
theorem d25_Mod_letter_31 : decode prog_15_method_13_code 31 = .ok (.putfield 44, 3) := by decide +kernel
theorem d25_Mod_letter_34 : decode prog_15_method_13_code 34 = .ok (.aload_n 0, 1) := by decide +kernel
theorem d25_Mod_letter_35 : decode prog_15_method_13_code 35 = .ok (.getfield 44, 3) := by decide +kernel
theorem d25_Mod_letter_38 : decode prog_15_method_13_code 38 = .ok (.ifCond .le 7, 3) := by decide +kernel
theorem d25_Mod_letter_41 : decode prog_15_method_13_code 41 = .ok (.iconst 0, 1) := by decide +kernel
theorem d25_Mod_letter_42 : decode prog_15_method_13_code 42 = .ok (.goto 12, 3) := by decide +kernel
theorem d25_Mod_letter_54 : decode prog_15_method_13_code 54 = .ok (.ireturn, 1) := by decide +kernel
theorem d25_Mod_log_0 : decode prog_15_method_14_code 0 = .ok (.aload_n 0, 1) := by decide +kernel
theorem d25_Mod_log_1 : decode prog_15_method_14_code 1 = .ok (.iload_n 1, 1) := by decide +kernel
theorem d25_Mod_log_2 : decode prog_15_method_14_code 2 = .ok (.ifCond .lt 14, 3) := by decide +kernel
theorem d25_Mod_log_16 : decode prog_15_method_14_code 16 = .ok (.iconst 1, 1) := by decide +kernel
theorem d25_Mod_log_17 : decode prog_15_method_14_code 17 = .ok (.goto 4, 3) := by decide +kernel
theorem d25_Mod_log_21 : decode prog_15_method_14_code 21 = .ok (.putfield 44, 3) := by decide +kernel
theorem d25_Mod_log_24 : decode prog_15_method_14_code 24 = .ok (.aload_n 0, 1) := by decide +kernel
theorem d25_Mod_log_25 : decode prog_15_method_14_code 25 = .ok (.getfield 44, 3) := by decide +kernel
theorem d25_Mod_log_28 : decode prog_15_method_14_code 28 = .ok (.ifCond .le 7, 3) := by decide +kernel
theorem d25_Mod_log_31 : decode prog_15_method_14_code 31 = .ok (.iconst 0, 1) := by decide +kernel
theorem d25_Mod_log_32 : decode prog_15_method_14_code 32 = .ok (.goto 16, 3) := by decide +kernel
theorem d25_Mod_log_48 : decode prog_15_method_14_code 48 = .ok (.ireturn, 1) := by decide +kernel
theorem d25_Mod_log_5 : decode prog_15_method_14_code 5 = .ok (.iload_n 1, 1) := by decide +kernel
theorem d25_Mod_log_6 : decode prog_15_method_14_code 6 = .ok (.aload_n 0, 1) := by decide +kernel
theorem d25_Mod_log_7 : decode prog_15_method_14_code 7 = .ok (.getfield 37, 3) := by decide +kernel
theorem d25_Mod_log_10 : decode prog_15_method_14_code 10 = .ok (.getfield 116, 3) := by decide +kernel
theorem d25_Mod_log_13 : decode prog_15_method_14_code 13 = .ok (.if_icmp .lt 7, 3) := by decide +kernel
theorem d25_Mod_time_0 : decode prog_15_method_15_code 0 = .ok (.aload_n 0, 1) := by decide +kernel
theorem d25_Mod_time_1 : decode prog_15_method_15_code 1 = .ok (.iconst 0, 1) := by decide +kernel
theorem d25_Mod_time_2 : decode prog_15_method_15_code 2 = .ok (.putfield 44, 3) := by decide +kernel
theorem d25_Mod_time_5 : decode prog_15_method_15_code 5 = .ok (.aload_n 0, 1) := by decide +kernel
theorem d25_Mod_time_6 : decode prog_15_method_15_code 6 = .ok (.getfield 37, 3) := by decide +kernel
theorem d25_Mod_time_9 : decode prog_15_method_15_code 9 = .ok (.getfield 122, 3) := by decide +kernel
theorem d25_Mod_time_12 : decode prog_15_method_15_code 12 = .ok (.lreturn, 1) := by decide +kernel
theorem d25_Mci_cost_0 : decode prog_16_method_134_code 0 = .ok (.aload_n 0, 1) := by decide +kernel
theorem d25_Mci_cost_1 : decode prog_16_method_134_code 1 = .ok (.getfield 582, 3) := by decide +kernel
theorem d25_Mci_cost_4 : decode prog_16_method_134_code 4 = .ok (.ireturn, 1) := by decide +kernel
theorem d25_Mci_processesIn_0 : decode prog_16_method_135_code 0 = .ok (.iconst 0, 1) := by decide +kernel
theorem d25_Mci_processesIn_1 : decode prog_16_method_135_code 1 = .ok (.istore_n 2, 1) := by decide +kernel
theorem d25_Mci_processesIn_2 : decode prog_16_method_135_code 2 = .ok (.iconst 0, 1) := by decide +kernel
theorem d25_Mci_processesIn_3 : decode prog_16_method_135_code 3 = .ok (.istore_n 3, 1) := by decide +kernel
theorem d25_Mci_processesIn_4 : decode prog_16_method_135_code 4 = .ok (.iload_n 3, 1) := by decide +kernel
theorem d25_Mci_processesIn_5 : decode prog_16_method_135_code 5 = .ok (.aload_n 0, 1) := by decide +kernel
theorem d25_Mci_processesIn_6 : decode prog_16_method_135_code 6 = .ok (.getfield 476, 3) := by decide +kernel
theorem d25_Mci_processesIn_9 : decode prog_16_method_135_code 9 = .ok (.if_icmp .ge 22, 3) := by decide +kernel
theorem d25_Mci_processesIn_31 : decode prog_16_method_135_code 31 = .ok (.iload_n 2, 1) := by decide +kernel
theorem d25_Mci_processesIn_32 : decode prog_16_method_135_code 32 = .ok (.ireturn, 1) := by decide +kernel
theorem d25_Mod_count_0 : decode prog_15_method_16_code 0 = .ok (.aload_n 0, 1) := by decide +kernel
theorem d25_Mod_count_1 : decode prog_15_method_16_code 1 = .ok (.iconst 0, 1) := by decide +kernel
theorem d25_Mod_count_2 : decode prog_15_method_16_code 2 = .ok (.putfield 44, 3) := by decide +kernel
theorem d25_Mod_count_5 : decode prog_15_method_16_code 5 = .ok (.iload_n 1, 1) := by decide +kernel
theorem d25_Mod_count_6 : decode prog_15_method_16_code 6 = .ok (.tableswitch 169 0 11 #[62, 67, 75, 83, 91, 99, 107, 118, 129, 140, 151, 160], 62) := by decide +kernel
theorem d25_Mod_count_175 : decode prog_15_method_16_code 175 = .ok (.iconst (-1), 1) := by decide +kernel
theorem d25_Mod_count_176 : decode prog_15_method_16_code 176 = .ok (.ireturn, 1) := by decide +kernel
theorem d25_Mod_count_68 : decode prog_15_method_16_code 68 = .ok (.aload_n 0, 1) := by decide +kernel
theorem d25_Mod_count_69 : decode prog_15_method_16_code 69 = .ok (.getfield 47, 3) := by decide +kernel
theorem d25_Mod_count_72 : decode prog_15_method_16_code 72 = .ok (.ireturn, 1) := by decide +kernel
theorem d25_Mod_count_73 : decode prog_15_method_16_code 73 = .ok (.aload_n 0, 1) := by decide +kernel
theorem d25_Mod_count_74 : decode prog_15_method_16_code 74 = .ok (.getfield 37, 3) := by decide +kernel
theorem d25_Mod_count_77 : decode prog_15_method_16_code 77 = .ok (.getfield 69, 3) := by decide +kernel
theorem d25_Mod_count_80 : decode prog_15_method_16_code 80 = .ok (.ireturn, 1) := by decide +kernel
theorem d25_Mod_count_81 : decode prog_15_method_16_code 81 = .ok (.aload_n 0, 1) := by decide +kernel
theorem d25_Mod_count_82 : decode prog_15_method_16_code 82 = .ok (.getfield 37, 3) := by decide +kernel
theorem d25_Mod_count_85 : decode prog_15_method_16_code 85 = .ok (.getfield 126, 3) := by decide +kernel
theorem d25_Mod_count_88 : decode prog_15_method_16_code 88 = .ok (.ireturn, 1) := by decide +kernel
theorem d25_Mod_count_89 : decode prog_15_method_16_code 89 = .ok (.aload_n 0, 1) := by decide +kernel
theorem d25_Mod_count_90 : decode prog_15_method_16_code 90 = .ok (.getfield 37, 3) := by decide +kernel
theorem d25_Mod_count_93 : decode prog_15_method_16_code 93 = .ok (.getfield 129, 3) := by decide +kernel
theorem d25_Mod_count_96 : decode prog_15_method_16_code 96 = .ok (.ireturn, 1) := by decide +kernel
theorem d25_Mod_count_97 : decode prog_15_method_16_code 97 = .ok (.aload_n 0, 1) := by decide +kernel
theorem d25_Mod_count_98 : decode prog_15_method_16_code 98 = .ok (.getfield 37, 3) := by decide +kernel
theorem d25_Mod_count_101 : decode prog_15_method_16_code 101 = .ok (.getfield 116, 3) := by decide +kernel
theorem d25_Mod_count_104 : decode prog_15_method_16_code 104 = .ok (.ireturn, 1) := by decide +kernel
theorem d25_Mod_count_105 : decode prog_15_method_16_code 105 = .ok (.aload_n 0, 1) := by decide +kernel
theorem d25_Mod_count_106 : decode prog_15_method_16_code 106 = .ok (.getfield 37, 3) := by decide +kernel
theorem d25_Mod_count_109 : decode prog_15_method_16_code 109 = .ok (.invokevirtual 132, 3) := by decide +kernel
theorem d25_Mod_count_112 : decode prog_15_method_16_code 112 = .ok (.ireturn, 1) := by decide +kernel
theorem d25_Mod_count_113 : decode prog_15_method_16_code 113 = .ok (.aload_n 0, 1) := by decide +kernel
theorem d25_Mod_count_114 : decode prog_15_method_16_code 114 = .ok (.getfield 37, 3) := by decide +kernel
theorem d25_Mod_count_117 : decode prog_15_method_16_code 117 = .ok (.getfield 136, 3) := by decide +kernel
theorem d25_Mod_count_120 : decode prog_15_method_16_code 120 = .ok (.getfield 140, 3) := by decide +kernel
theorem d25_Mod_count_123 : decode prog_15_method_16_code 123 = .ok (.ireturn, 1) := by decide +kernel
theorem d25_Mod_count_124 : decode prog_15_method_16_code 124 = .ok (.aload_n 0, 1) := by decide +kernel
theorem d25_Mod_count_125 : decode prog_15_method_16_code 125 = .ok (.getfield 37, 3) := by decide +kernel
theorem d25_Mod_count_128 : decode prog_15_method_16_code 128 = .ok (.getfield 145, 3) := by decide +kernel
theorem d25_Mod_count_131 : decode prog_15_method_16_code 131 = .ok (.getfield 140, 3) := by decide +kernel
theorem d25_Mod_count_134 : decode prog_15_method_16_code 134 = .ok (.ireturn, 1) := by decide +kernel
theorem d25_Mod_count_135 : decode prog_15_method_16_code 135 = .ok (.aload_n 0, 1) := by decide +kernel
theorem d25_Mod_count_136 : decode prog_15_method_16_code 136 = .ok (.getfield 37, 3) := by decide +kernel
theorem d25_Mod_count_139 : decode prog_15_method_16_code 139 = .ok (.getfield 148, 3) := by decide +kernel
theorem d25_Mod_count_142 : decode prog_15_method_16_code 142 = .ok (.getfield 140, 3) := by decide +kernel
theorem d25_Mod_count_145 : decode prog_15_method_16_code 145 = .ok (.ireturn, 1) := by decide +kernel
theorem d25_Mod_count_146 : decode prog_15_method_16_code 146 = .ok (.aload_n 0, 1) := by decide +kernel
theorem d25_Mod_count_147 : decode prog_15_method_16_code 147 = .ok (.getfield 37, 3) := by decide +kernel
theorem d25_Mod_count_150 : decode prog_15_method_16_code 150 = .ok (.getfield 151, 3) := by decide +kernel
theorem d25_Mod_count_153 : decode prog_15_method_16_code 153 = .ok (.getfield 140, 3) := by decide +kernel
theorem d25_Mod_count_156 : decode prog_15_method_16_code 156 = .ok (.ireturn, 1) := by decide +kernel
theorem d25_Mod_count_157 : decode prog_15_method_16_code 157 = .ok (.aload_n 0, 1) := by decide +kernel
theorem d25_Mod_count_158 : decode prog_15_method_16_code 158 = .ok (.getfield 37, 3) := by decide +kernel
theorem d25_Mod_count_161 : decode prog_15_method_16_code 161 = .ok (.iconst 1, 1) := by decide +kernel
theorem d25_Mod_count_162 : decode prog_15_method_16_code 162 = .ok (.invokevirtual 154, 3) := by decide +kernel
theorem d25_Mod_count_165 : decode prog_15_method_16_code 165 = .ok (.ireturn, 1) := by decide +kernel
theorem d25_Mod_count_166 : decode prog_15_method_16_code 166 = .ok (.aload_n 0, 1) := by decide +kernel
theorem d25_Mod_count_167 : decode prog_15_method_16_code 167 = .ok (.getfield 37, 3) := by decide +kernel
theorem d25_Mod_count_170 : decode prog_15_method_16_code 170 = .ok (.iconst 2, 1) := by decide +kernel
theorem d25_Mod_count_171 : decode prog_15_method_16_code 171 = .ok (.invokevirtual 154, 3) := by decide +kernel
theorem d25_Mod_count_174 : decode prog_15_method_16_code 174 = .ok (.ireturn, 1) := by decide +kernel
/-- what the reference shows, beside what the class does (o): the number that thrown() gives (k where it throws), and the value -/
def q_ag (o : q_O) (k : Int32) (t v : Option Value) : Prop := match o with
  | .inl x => t = some (.int 0) ∧ v = x
  | .inr _ => t = some (.int k)
theorem q_eqI {x y : Int32} (h : x.toInt = y.toInt) : x = y := Int32.toInt_inj.mp h
theorem q_upto11 {x : Int32} (h1 : ¬ x.toInt < 0) (h2 : ¬ 11 < x.toInt) : x = 0 ∨ x = 1 ∨ x = 2 ∨ x = 3 ∨ x = 4 ∨ x = 5 ∨ x = 6 ∨ x = 7 ∨ x = 8 ∨ x = 9 ∨ x = 10 ∨ x = 11 := by
  have h : x.toInt = 0 ∨ x.toInt = 1 ∨ x.toInt = 2 ∨ x.toInt = 3 ∨ x.toInt = 4 ∨ x.toInt = 5 ∨ x.toInt = 6 ∨ x.toInt = 7 ∨ x.toInt = 8 ∨ x.toInt = 9 ∨ x.toInt = 10 ∨ x.toInt = 11 := by omega
  rcases h with h | h | h | h | h | h | h | h | h | h | h | h
  · exact Or.inl (q_eqI h)
  · exact Or.inr (Or.inl (q_eqI h))
  · exact Or.inr (Or.inr (Or.inl (q_eqI h)))
  · exact Or.inr (Or.inr (Or.inr (Or.inl (q_eqI h))))
  · exact Or.inr (Or.inr (Or.inr (Or.inr (Or.inl (q_eqI h)))))
  · exact Or.inr (Or.inr (Or.inr (Or.inr (Or.inr (Or.inl (q_eqI h))))))
  · exact Or.inr (Or.inr (Or.inr (Or.inr (Or.inr (Or.inr (Or.inl (q_eqI h)))))))
  · exact Or.inr (Or.inr (Or.inr (Or.inr (Or.inr (Or.inr (Or.inr (Or.inl (q_eqI h))))))))
  · exact Or.inr (Or.inr (Or.inr (Or.inr (Or.inr (Or.inr (Or.inr (Or.inr (Or.inl (q_eqI h)))))))))
  · exact Or.inr (Or.inr (Or.inr (Or.inr (Or.inr (Or.inr (Or.inr (Or.inr (Or.inr (Or.inl (q_eqI h))))))))))
  · exact Or.inr (Or.inr (Or.inr (Or.inr (Or.inr (Or.inr (Or.inr (Or.inr (Or.inr (Or.inr (Or.inl (q_eqI h)))))))))))
  · exact Or.inr (Or.inr (Or.inr (Or.inr (Or.inr (Or.inr (Or.inr (Or.inr (Or.inr (Or.inr (Or.inr (q_eqI h)))))))))))
theorem q_upto15 {x : Int32} (h1 : ¬ x.toInt < 0) (h2 : ¬ 15 < x.toInt) : x = 0 ∨ x = 1 ∨ x = 2 ∨ x = 3 ∨ x = 4 ∨ x = 5 ∨ x = 6 ∨ x = 7 ∨ x = 8 ∨ x = 9 ∨ x = 10 ∨ x = 11 ∨ x = 12 ∨ x = 13 ∨ x = 14 ∨ x = 15 := by
  have h : x.toInt = 0 ∨ x.toInt = 1 ∨ x.toInt = 2 ∨ x.toInt = 3 ∨ x.toInt = 4 ∨ x.toInt = 5 ∨ x.toInt = 6 ∨ x.toInt = 7 ∨ x.toInt = 8 ∨ x.toInt = 9 ∨ x.toInt = 10 ∨ x.toInt = 11 ∨ x.toInt = 12 ∨ x.toInt = 13 ∨ x.toInt = 14 ∨ x.toInt = 15 := by omega
  rcases h with h | h | h | h | h | h | h | h | h | h | h | h | h | h | h | h
  · exact Or.inl (q_eqI h)
  · exact Or.inr (Or.inl (q_eqI h))
  · exact Or.inr (Or.inr (Or.inl (q_eqI h)))
  · exact Or.inr (Or.inr (Or.inr (Or.inl (q_eqI h))))
  · exact Or.inr (Or.inr (Or.inr (Or.inr (Or.inl (q_eqI h)))))
  · exact Or.inr (Or.inr (Or.inr (Or.inr (Or.inr (Or.inl (q_eqI h))))))
  · exact Or.inr (Or.inr (Or.inr (Or.inr (Or.inr (Or.inr (Or.inl (q_eqI h)))))))
  · exact Or.inr (Or.inr (Or.inr (Or.inr (Or.inr (Or.inr (Or.inr (Or.inl (q_eqI h))))))))
  · exact Or.inr (Or.inr (Or.inr (Or.inr (Or.inr (Or.inr (Or.inr (Or.inr (Or.inl (q_eqI h)))))))))
  · exact Or.inr (Or.inr (Or.inr (Or.inr (Or.inr (Or.inr (Or.inr (Or.inr (Or.inr (Or.inl (q_eqI h))))))))))
  · exact Or.inr (Or.inr (Or.inr (Or.inr (Or.inr (Or.inr (Or.inr (Or.inr (Or.inr (Or.inr (Or.inl (q_eqI h)))))))))))
  · exact Or.inr (Or.inr (Or.inr (Or.inr (Or.inr (Or.inr (Or.inr (Or.inr (Or.inr (Or.inr (Or.inr (Or.inl (q_eqI h))))))))))))
  · exact Or.inr (Or.inr (Or.inr (Or.inr (Or.inr (Or.inr (Or.inr (Or.inr (Or.inr (Or.inr (Or.inr (Or.inr (Or.inl (q_eqI h)))))))))))))
  · exact Or.inr (Or.inr (Or.inr (Or.inr (Or.inr (Or.inr (Or.inr (Or.inr (Or.inr (Or.inr (Or.inr (Or.inr (Or.inr (Or.inl (q_eqI h))))))))))))))
  · exact Or.inr (Or.inr (Or.inr (Or.inr (Or.inr (Or.inr (Or.inr (Or.inr (Or.inr (Or.inr (Or.inr (Or.inr (Or.inr (Or.inr (Or.inl (q_eqI h)))))))))))))))
  · exact Or.inr (Or.inr (Or.inr (Or.inr (Or.inr (Or.inr (Or.inr (Or.inr (Or.inr (Or.inr (Or.inr (Or.inr (Or.inr (Or.inr (Or.inr (q_eqI h)))))))))))))))
set_option maxHeartbeats 4000000 in
set_option maxRecDepth 100000 in
/-- thrown() -/
theorem c_Mod_thrown (l : Launch) (D : va_G) (h0 : Nat) (fs : List Value) (t : Int32) (ht : fs[2]? = some (.int t)) : q_Met l ⟨"SignalTheatreModel", "thrown", "()I"⟩ (Cond.code ⟨"SignalTheatreModel", "thrown", "()I"⟩ prog_15_method_2_code 1 (some .int)) { frames := 0, cells := 0, slots := 0, locals := 0 } D q_cl [.ref h0] [(h0, .inr (13, fs))] [] (fun r w ty => r = .inl (some (.int t)) ∧ w = [(h0, .inr (13, fs))] ∧ ty = []) := by
  refine q_ofW (by decide) ?_
  intro p e s m below meth c C hr hin hex I
  have hx := C.1
  have hb := C.2.1
  have hl := lv_entry ([.ref h0]) (n := 1) (Nat.le_of_ble_eq_true rfl)
  rw [lg_entry_eq]
  generalize (lg_sl ([.ref h0]) ++ List.replicate (1 - (lg_sl ([.ref h0])).length) Slot.unset).toArray = ls at hl ⊢
  have hl : lv_has ls 1 [(0, .ref h0)] := hl
  refine lv_aload_n hx hb d25_Mod_thrown_0 rfl (lv_at hl 0 rfl) ?_
  refine q_get C I 0 2 rfl rfl i_Mod (by decide) m25_0 ht d25_Mod_thrown_1 ?_
  have I : q_I D q_cl _ s [(h0, .inr (13, fs))] [] _ _ := q_pick I [0] [] rfl (by decide) rfl
  exact q_iret C hr I ⟨rfl, rfl, rfl⟩ (Nat.le_of_ble_eq_true rfl) (Nat.le_of_ble_eq_true rfl) d25_Mod_thrown_4
set_option maxHeartbeats 4000000 in
set_option maxRecDepth 100000 in
/-- isThere(v, w): never -/
theorem c_Mod_isThere (l : Launch) (D : va_G) (h0 : Nat) (m_input : Nat) (m_tree : Nat) (m_other : Nat) (m_now : Nat) (m_spare : Nat) (m_circuit : Nat) (m_old : Nat) (mf : List Value) (hm_vars : mf[24]? = some (.int 0)) (v : Int32) (w : Int32) : q_Met l ⟨"SignalTheatreModel", "isThere", "(II)Z"⟩ (Cond.code ⟨"SignalTheatreModel", "isThere", "(II)Z"⟩ prog_15_method_9_code 3 (some .boolean)) { frames := 0, cells := 0, slots := 0, locals := 0 } D q_cl [.ref h0, .int v, .int w] [(h0, .inr (13, [.ref m_input, .int 0, .int 0, .int 0, .int (-1), .ref m_tree, .ref m_other, .ref m_now, .ref m_spare, .ref m_circuit, .ref m_old])), (m_circuit, .inr (17, mf))] [] (fun r w ty => r = .inl (some (.int 0)) ∧ w = [(h0, .inr (13, [.ref m_input, .int 0, .int 0, .int 0, .int (-1), .ref m_tree, .ref m_other, .ref m_now, .ref m_spare, .ref m_circuit, .ref m_old])), (m_circuit, .inr (17, mf))] ∧ ty = []) := by
  refine q_ofW (by decide) ?_
  intro p e s m below meth c C hr hin hex I
  have hx := C.1
  have hb := C.2.1
  have hl := lv_entry ([.ref h0, .int v, .int w]) (n := 3) (Nat.le_of_ble_eq_true rfl)
  rw [lg_entry_eq]
  generalize (lg_sl ([.ref h0, .int v, .int w]) ++ List.replicate (3 - (lg_sl ([.ref h0, .int v, .int w])).length) Slot.unset).toArray = ls at hl ⊢
  have hl : lv_has ls 3 [(0, .ref h0), (1, .int v), (2, .int w)] := hl
  refine lv_iload_n hx hb d25_Mod_isThere_0 rfl (lv_at hl 1 rfl) ?_
  refine lv_if_lt (tgt := 40) hx hb d25_Mod_isThere_1 (by decide) (fun c1 => ?_) (fun c1 => ?_)
  · skip
    refine lv_iconst (v := 0) hx hb d25_Mod_isThere_40 (by decide) ?_
    exact q_zret C hr rfl I ⟨rfl, rfl, rfl⟩ (Nat.le_of_ble_eq_true rfl) (Nat.le_of_ble_eq_true rfl) d25_Mod_isThere_41
  · skip
    refine lv_iload_n hx hb d25_Mod_isThere_4 rfl (lv_at hl 1 rfl) ?_
    refine lv_aload_n hx hb d25_Mod_isThere_5 rfl (lv_at hl 0 rfl) ?_
    refine q_get C I 0 9 rfl rfl i_Mod (by decide) m25_1 rfl d25_Mod_isThere_6 ?_
    refine q_get C I 1 24 rfl rfl i_Mci (by decide) m25_2 hm_vars d25_Mod_isThere_9 ?_
    refine lv_icmp_ge (tgt := 40) hx hb d25_Mod_isThere_12 (by decide) (fun _ => ?_) (fun h => absurd (Int32.not_lt.mp c1) h)
    refine lv_iconst (v := 0) hx hb d25_Mod_isThere_40 (by decide) ?_
    exact q_zret C hr rfl I ⟨rfl, rfl, rfl⟩ (Nat.le_of_ble_eq_true rfl) (Nat.le_of_ble_eq_true rfl) d25_Mod_isThere_41
set_option maxHeartbeats 4000000 in
set_option maxRecDepth 100000 in
/-- end(n) -/
theorem c_Mod_end (l : Launch) (D : va_G) (h0 : Nat) (m_input : Nat) (m_tree : Nat) (m_other : Nat) (m_now : Nat) (m_spare : Nat) (m_circuit : Nat) (m_old : Nat) (n : Int32) : q_Met l ⟨"SignalTheatreModel", "end", "(I)I"⟩ (Cond.code ⟨"SignalTheatreModel", "end", "(I)I"⟩ prog_15_method_5_code 2 (some .int)) { frames := 0, cells := 0, slots := 0, locals := 0 } D q_cl [.ref h0, .int n] [(h0, .inr (13, [.ref m_input, .int 0, .int 0, .int 0, .int (-1), .ref m_tree, .ref m_other, .ref m_now, .ref m_spare, .ref m_circuit, .ref m_old]))] [] (fun r w ty => ∃ (fs : List Value) (z : Int32), r = .inl (some (.int z)) ∧ w = [(h0, .inr (13, fs))] ∧ ty = [] ∧ q_ag (o_end n) (1) fs[2]? (some (.int z))) := by
  refine q_ofW (by decide) ?_
  intro p e s m below meth c C hr hin hex I
  have hx := C.1
  have hb := C.2.1
  have hl := lv_entry ([.ref h0, .int n]) (n := 2) (Nat.le_of_ble_eq_true rfl)
  rw [lg_entry_eq]
  generalize (lg_sl ([.ref h0, .int n]) ++ List.replicate (2 - (lg_sl ([.ref h0, .int n])).length) Slot.unset).toArray = ls at hl ⊢
  have hl : lv_has ls 2 [(0, .ref h0), (1, .int n)] := hl
  refine lv_aload_n hx hb d25_Mod_end_0 rfl (lv_at hl 0 rfl) ?_
  refine lv_iconst (v := 0) hx hb d25_Mod_end_1 (by decide) ?_
  refine q_put t_Mod t_Mod_ok n_Mod C I 0 2 rfl rfl i_Mod (by decide) m25_0 rfl rfl rfl (Nat.le_of_ble_eq_true rfl) d25_Mod_end_2 (fun H locs I => ?_)
  have I : q_I D q_cl _ s [(h0, .inr (13, [.ref m_input, .int 0, .int 0, .int 0, .int (-1), .ref m_tree, .ref m_other, .ref m_now, .ref m_spare, .ref m_circuit, .ref m_old]))] [] H _ := I
  refine lv_iload_n hx hb d25_Mod_end_5 rfl (lv_at hl 1 rfl) ?_
  refine lv_if_lt (tgt := 17) hx hb d25_Mod_end_6 (by decide) (fun c6 => ?_) (fun c6 => ?_)
  · skip
    refine lv_aload_n hx hb d25_Mod_end_17 rfl (lv_at hl 0 rfl) ?_
    refine lv_iconst (v := 1) hx hb d25_Mod_end_18 (by decide) ?_
    refine q_put t_Mod t_Mod_ok n_Mod C I 0 2 rfl rfl i_Mod (by decide) m25_0 rfl rfl rfl (Nat.le_of_ble_eq_true rfl) d25_Mod_end_19 (fun H locs I => ?_)
    have I : q_I D q_cl _ s [(h0, .inr (13, [.ref m_input, .int 0, .int 1, .int 0, .int (-1), .ref m_tree, .ref m_other, .ref m_now, .ref m_spare, .ref m_circuit, .ref m_old]))] [] H _ := I
    refine lv_iconst (v := 0) hx hb d25_Mod_end_22 (by decide) ?_
    have I : q_I D q_cl _ s [(h0, .inr (13, [.ref m_input, .int 0, .int 1, .int 0, .int (-1), .ref m_tree, .ref m_other, .ref m_now, .ref m_spare, .ref m_circuit, .ref m_old]))] [] _ _ := q_pick I [0] [] rfl (by decide) rfl
    exact q_iret C hr I ⟨_, _, rfl, rfl, rfl, by rw [o_end, if_pos (Or.inl c6)]; exact rfl⟩ (Nat.le_of_ble_eq_true rfl) (Nat.le_of_ble_eq_true rfl) d25_Mod_end_23
  · skip
    refine lv_iload_n hx hb d25_Mod_end_9 rfl (lv_at hl 1 rfl) ?_
    refine lv_aload_n hx hb d25_Mod_end_10 rfl (lv_at hl 0 rfl) ?_
    refine q_get C I 0 1 rfl rfl i_Mod (by decide) m25_3 rfl d25_Mod_end_11 ?_
    refine lv_icmp_le (tgt := 24) hx hb d25_Mod_end_14 (by decide) (fun c14 => ?_) (fun c14 => ?_)
    · skip
      refine lv_aload_n hx hb d25_Mod_end_24 rfl (lv_at hl 0 rfl) ?_
      refine lv_dup hx hb d25_Mod_end_25 rfl ?_
      refine q_get C I 0 1 rfl rfl i_Mod (by decide) m25_3 rfl d25_Mod_end_26 ?_
      refine lv_iload_n hx hb d25_Mod_end_29 rfl (lv_at hl 1 rfl) ?_
      refine lv_isub hx hb d25_Mod_end_30 ?_
      refine q_put t_Mod t_Mod_ok n_Mod C I 0 1 rfl rfl i_Mod (by decide) m25_3 rfl rfl rfl (Nat.le_of_ble_eq_true rfl) d25_Mod_end_31 (fun H locs I => ?_)
      have I : q_I D q_cl _ s [(h0, .inr (13, [.ref m_input, .int (0 - n), .int 0, .int 0, .int (-1), .ref m_tree, .ref m_other, .ref m_now, .ref m_spare, .ref m_circuit, .ref m_old]))] [] H _ := I
      refine lv_aload_n hx hb d25_Mod_end_34 rfl (lv_at hl 0 rfl) ?_
      refine q_get C I 0 1 rfl rfl i_Mod (by decide) m25_3 rfl d25_Mod_end_35 ?_
      have I : q_I D q_cl _ s [(h0, .inr (13, [.ref m_input, .int (0 - n), .int 0, .int 0, .int (-1), .ref m_tree, .ref m_other, .ref m_now, .ref m_spare, .ref m_circuit, .ref m_old]))] [] _ _ := q_pick I [0] [] rfl (by decide) rfl
      exact q_iret C hr I ⟨_, _, rfl, rfl, rfl, by rw [o_end, if_neg (fun h : _ ∨ _ => h.elim c6 (fun h => h c14))]; exact ⟨rfl, rfl⟩⟩ (Nat.le_of_ble_eq_true rfl) (Nat.le_of_ble_eq_true rfl) d25_Mod_end_38
    · skip
      refine lv_aload_n hx hb d25_Mod_end_17 rfl (lv_at hl 0 rfl) ?_
      refine lv_iconst (v := 1) hx hb d25_Mod_end_18 (by decide) ?_
      refine q_put t_Mod t_Mod_ok n_Mod C I 0 2 rfl rfl i_Mod (by decide) m25_0 rfl rfl rfl (Nat.le_of_ble_eq_true rfl) d25_Mod_end_19 (fun H locs I => ?_)
      have I : q_I D q_cl _ s [(h0, .inr (13, [.ref m_input, .int 0, .int 1, .int 0, .int (-1), .ref m_tree, .ref m_other, .ref m_now, .ref m_spare, .ref m_circuit, .ref m_old]))] [] H _ := I
      refine lv_iconst (v := 0) hx hb d25_Mod_end_22 (by decide) ?_
      have I : q_I D q_cl _ s [(h0, .inr (13, [.ref m_input, .int 0, .int 1, .int 0, .int (-1), .ref m_tree, .ref m_other, .ref m_now, .ref m_spare, .ref m_circuit, .ref m_old]))] [] _ _ := q_pick I [0] [] rfl (by decide) rfl
      exact q_iret C hr I ⟨_, _, rfl, rfl, rfl, by rw [o_end, if_pos (Or.inr c14)]; exact rfl⟩ (Nat.le_of_ble_eq_true rfl) (Nat.le_of_ble_eq_true rfl) d25_Mod_end_23
theorem q_01 {x : Int32} (h1 : ¬ x < 0) (h2 : x ≤ 1) (h3 : ¬ x = 0) (h4 : ¬ x = 1) : False := by
  rw [Int32.lt_iff_toInt_lt] at h1
  rw [Int32.le_iff_toInt_le] at h2
  rw [← Int32.toInt_inj] at h3 h4
  have e0 : (0 : Int32).toInt = 0 := rfl
  have e1 : (1 : Int32).toInt = 1 := rfl
  omega
set_option maxHeartbeats 4000000 in
set_option maxRecDepth 100000 in
/-- fault(k) -/
theorem c_Mod_fault (l : Launch) (D : va_G) (h0 : Nat) (m_input : Nat) (m_tree : Nat) (m_other : Nat) (m_now : Nat) (m_spare : Nat) (m_circuit : Nat) (m_old : Nat) (k : Int32) : q_Met l ⟨"SignalTheatreModel", "fault", "(I)I"⟩ (Cond.code ⟨"SignalTheatreModel", "fault", "(I)I"⟩ prog_15_method_7_code 2 (some .int)) { frames := 0, cells := 0, slots := 0, locals := 0 } D q_cl [.ref h0, .int k] [(h0, .inr (13, [.ref m_input, .int 0, .int 0, .int 0, .int (-1), .ref m_tree, .ref m_other, .ref m_now, .ref m_spare, .ref m_circuit, .ref m_old]))] [] (fun r w ty => ∃ (fs : List Value) (z : Int32), r = .inl (some (.int z)) ∧ w = [(h0, .inr (13, fs))] ∧ ty = [] ∧ q_ag (o_fault k) (1) fs[2]? (some (.int z))) := by
  refine q_ofW (by decide) ?_
  intro p e s m below meth c C hr hin hex I
  have hx := C.1
  have hb := C.2.1
  have hl := lv_entry ([.ref h0, .int k]) (n := 2) (Nat.le_of_ble_eq_true rfl)
  rw [lg_entry_eq]
  generalize (lg_sl ([.ref h0, .int k]) ++ List.replicate (2 - (lg_sl ([.ref h0, .int k])).length) Slot.unset).toArray = ls at hl ⊢
  have hl : lv_has ls 2 [(0, .ref h0), (1, .int k)] := hl
  refine lv_aload_n hx hb d25_Mod_fault_0 rfl (lv_at hl 0 rfl) ?_
  refine lv_iload_n hx hb d25_Mod_fault_1 rfl (lv_at hl 1 rfl) ?_
  refine lv_if_lt (tgt := 10) hx hb d25_Mod_fault_2 (by decide) (fun c2 => ?_) (fun c2 => ?_)
  · skip
    refine lv_iconst (v := 1) hx hb d25_Mod_fault_10 (by decide) ?_
    refine lv_goto (tgt := 15) hx hb d25_Mod_fault_11 (by decide) ?_
    refine q_put t_Mod t_Mod_ok n_Mod C I 0 2 rfl rfl i_Mod (by decide) m25_0 rfl rfl rfl (Nat.le_of_ble_eq_true rfl) d25_Mod_fault_15 (fun H locs I => ?_)
    have I : q_I D q_cl _ s [(h0, .inr (13, [.ref m_input, .int 0, .int 1, .int 0, .int (-1), .ref m_tree, .ref m_other, .ref m_now, .ref m_spare, .ref m_circuit, .ref m_old]))] [] H _ := I
    refine lv_iload_n hx hb d25_Mod_fault_18 rfl (lv_at hl 1 rfl) ?_
    refine lv_if_ne (tgt := 29) hx hb d25_Mod_fault_19 (by decide) (fun c19 => ?_) (fun c19 => ?_)
    · skip
      refine lv_iload_n hx hb d25_Mod_fault_29 rfl (lv_at hl 1 rfl) ?_
      refine lv_iconst (v := 1) hx hb d25_Mod_fault_30 (by decide) ?_
      refine lv_icmp_ne (tgt := 41) hx hb d25_Mod_fault_31 (by decide) (fun c31 => ?_) (fun c31 => ?_)
      · skip
        refine lv_iconst (v := 0) hx hb d25_Mod_fault_41 (by decide) ?_
        have I : q_I D q_cl _ s [(h0, .inr (13, [.ref m_input, .int 0, .int 1, .int 0, .int (-1), .ref m_tree, .ref m_other, .ref m_now, .ref m_spare, .ref m_circuit, .ref m_old]))] [] _ _ := q_pick I [0] [] rfl (by decide) rfl
        exact q_iret C hr I ⟨_, _, rfl, rfl, rfl, by rw [o_fault, if_pos (Or.inl c2)]; exact rfl⟩ (Nat.le_of_ble_eq_true rfl) (Nat.le_of_ble_eq_true rfl) d25_Mod_fault_42
      · skip
        refine lv_aload_n hx hb d25_Mod_fault_34 rfl (lv_at hl 0 rfl) ?_
        refine q_get C I 0 4 rfl rfl i_Mod (by decide) m25_4 rfl d25_Mod_fault_35 ?_
        refine lv_goto (tgt := 42) hx hb d25_Mod_fault_38 (by decide) ?_
        have I : q_I D q_cl _ s [(h0, .inr (13, [.ref m_input, .int 0, .int 1, .int 0, .int (-1), .ref m_tree, .ref m_other, .ref m_now, .ref m_spare, .ref m_circuit, .ref m_old]))] [] _ _ := q_pick I [0] [] rfl (by decide) rfl
        exact q_iret C hr I ⟨_, _, rfl, rfl, rfl, by rw [o_fault, if_pos (Or.inl c2)]; exact rfl⟩ (Nat.le_of_ble_eq_true rfl) (Nat.le_of_ble_eq_true rfl) d25_Mod_fault_42
    · skip
      refine lv_aload_n hx hb d25_Mod_fault_22 rfl (lv_at hl 0 rfl) ?_
      refine q_get C I 0 3 rfl rfl i_Mod (by decide) m25_5 rfl d25_Mod_fault_23 ?_
      refine lv_goto (tgt := 42) hx hb d25_Mod_fault_26 (by decide) ?_
      have I : q_I D q_cl _ s [(h0, .inr (13, [.ref m_input, .int 0, .int 1, .int 0, .int (-1), .ref m_tree, .ref m_other, .ref m_now, .ref m_spare, .ref m_circuit, .ref m_old]))] [] _ _ := q_pick I [0] [] rfl (by decide) rfl
      exact q_iret C hr I ⟨_, _, rfl, rfl, rfl, by rw [o_fault, if_pos (Or.inl c2)]; exact rfl⟩ (Nat.le_of_ble_eq_true rfl) (Nat.le_of_ble_eq_true rfl) d25_Mod_fault_42
  · skip
    refine lv_iload_n hx hb d25_Mod_fault_5 rfl (lv_at hl 1 rfl) ?_
    refine lv_iconst (v := 1) hx hb d25_Mod_fault_6 (by decide) ?_
    refine lv_icmp_le (tgt := 14) hx hb d25_Mod_fault_7 (by decide) (fun c7 => ?_) (fun c7 => ?_)
    · skip
      refine lv_iconst (v := 0) hx hb d25_Mod_fault_14 (by decide) ?_
      refine q_put t_Mod t_Mod_ok n_Mod C I 0 2 rfl rfl i_Mod (by decide) m25_0 rfl rfl rfl (Nat.le_of_ble_eq_true rfl) d25_Mod_fault_15 (fun H locs I => ?_)
      have I : q_I D q_cl _ s [(h0, .inr (13, [.ref m_input, .int 0, .int 0, .int 0, .int (-1), .ref m_tree, .ref m_other, .ref m_now, .ref m_spare, .ref m_circuit, .ref m_old]))] [] H _ := I
      refine lv_iload_n hx hb d25_Mod_fault_18 rfl (lv_at hl 1 rfl) ?_
      refine lv_if_ne (tgt := 29) hx hb d25_Mod_fault_19 (by decide) (fun c19 => ?_) (fun c19 => ?_)
      · skip
        refine lv_iload_n hx hb d25_Mod_fault_29 rfl (lv_at hl 1 rfl) ?_
        refine lv_iconst (v := 1) hx hb d25_Mod_fault_30 (by decide) ?_
        refine lv_icmp_ne (tgt := 41) hx hb d25_Mod_fault_31 (by decide) (fun c31 => ?_) (fun c31 => ?_)
        · skip
          refine lv_iconst (v := 0) hx hb d25_Mod_fault_41 (by decide) ?_
          have I : q_I D q_cl _ s [(h0, .inr (13, [.ref m_input, .int 0, .int 0, .int 0, .int (-1), .ref m_tree, .ref m_other, .ref m_now, .ref m_spare, .ref m_circuit, .ref m_old]))] [] _ _ := q_pick I [0] [] rfl (by decide) rfl
          exact q_iret C hr I ⟨_, _, rfl, rfl, rfl, (q_01 c2 c7 c19 c31).elim⟩ (Nat.le_of_ble_eq_true rfl) (Nat.le_of_ble_eq_true rfl) d25_Mod_fault_42
        · skip
          refine lv_aload_n hx hb d25_Mod_fault_34 rfl (lv_at hl 0 rfl) ?_
          refine q_get C I 0 4 rfl rfl i_Mod (by decide) m25_4 rfl d25_Mod_fault_35 ?_
          refine lv_goto (tgt := 42) hx hb d25_Mod_fault_38 (by decide) ?_
          have I : q_I D q_cl _ s [(h0, .inr (13, [.ref m_input, .int 0, .int 0, .int 0, .int (-1), .ref m_tree, .ref m_other, .ref m_now, .ref m_spare, .ref m_circuit, .ref m_old]))] [] _ _ := q_pick I [0] [] rfl (by decide) rfl
          exact q_iret C hr I ⟨_, _, rfl, rfl, rfl, by rw [o_fault, if_neg (fun h : _ ∨ _ => h.elim c2 (fun h => h c7)), if_pos c19]; exact ⟨rfl, rfl⟩⟩ (Nat.le_of_ble_eq_true rfl) (Nat.le_of_ble_eq_true rfl) d25_Mod_fault_42
      · skip
        refine lv_aload_n hx hb d25_Mod_fault_22 rfl (lv_at hl 0 rfl) ?_
        refine q_get C I 0 3 rfl rfl i_Mod (by decide) m25_5 rfl d25_Mod_fault_23 ?_
        refine lv_goto (tgt := 42) hx hb d25_Mod_fault_26 (by decide) ?_
        have I : q_I D q_cl _ s [(h0, .inr (13, [.ref m_input, .int 0, .int 0, .int 0, .int (-1), .ref m_tree, .ref m_other, .ref m_now, .ref m_spare, .ref m_circuit, .ref m_old]))] [] _ _ := q_pick I [0] [] rfl (by decide) rfl
        exact q_iret C hr I ⟨_, _, rfl, rfl, rfl, by rw [o_fault, if_neg (fun h : _ ∨ _ => h.elim c2 (fun h => h c7)), if_neg (fun h => h c19)]; exact ⟨rfl, rfl⟩⟩ (Nat.le_of_ble_eq_true rfl) (Nat.le_of_ble_eq_true rfl) d25_Mod_fault_42
    · skip
      refine lv_iconst (v := 1) hx hb d25_Mod_fault_10 (by decide) ?_
      refine lv_goto (tgt := 15) hx hb d25_Mod_fault_11 (by decide) ?_
      refine q_put t_Mod t_Mod_ok n_Mod C I 0 2 rfl rfl i_Mod (by decide) m25_0 rfl rfl rfl (Nat.le_of_ble_eq_true rfl) d25_Mod_fault_15 (fun H locs I => ?_)
      have I : q_I D q_cl _ s [(h0, .inr (13, [.ref m_input, .int 0, .int 1, .int 0, .int (-1), .ref m_tree, .ref m_other, .ref m_now, .ref m_spare, .ref m_circuit, .ref m_old]))] [] H _ := I
      refine lv_iload_n hx hb d25_Mod_fault_18 rfl (lv_at hl 1 rfl) ?_
      refine lv_if_ne (tgt := 29) hx hb d25_Mod_fault_19 (by decide) (fun c19 => ?_) (fun c19 => ?_)
      · skip
        refine lv_iload_n hx hb d25_Mod_fault_29 rfl (lv_at hl 1 rfl) ?_
        refine lv_iconst (v := 1) hx hb d25_Mod_fault_30 (by decide) ?_
        refine lv_icmp_ne (tgt := 41) hx hb d25_Mod_fault_31 (by decide) (fun c31 => ?_) (fun c31 => ?_)
        · skip
          refine lv_iconst (v := 0) hx hb d25_Mod_fault_41 (by decide) ?_
          have I : q_I D q_cl _ s [(h0, .inr (13, [.ref m_input, .int 0, .int 1, .int 0, .int (-1), .ref m_tree, .ref m_other, .ref m_now, .ref m_spare, .ref m_circuit, .ref m_old]))] [] _ _ := q_pick I [0] [] rfl (by decide) rfl
          exact q_iret C hr I ⟨_, _, rfl, rfl, rfl, by rw [o_fault, if_pos (Or.inr c7)]; exact rfl⟩ (Nat.le_of_ble_eq_true rfl) (Nat.le_of_ble_eq_true rfl) d25_Mod_fault_42
        · skip
          refine lv_aload_n hx hb d25_Mod_fault_34 rfl (lv_at hl 0 rfl) ?_
          refine q_get C I 0 4 rfl rfl i_Mod (by decide) m25_4 rfl d25_Mod_fault_35 ?_
          refine lv_goto (tgt := 42) hx hb d25_Mod_fault_38 (by decide) ?_
          have I : q_I D q_cl _ s [(h0, .inr (13, [.ref m_input, .int 0, .int 1, .int 0, .int (-1), .ref m_tree, .ref m_other, .ref m_now, .ref m_spare, .ref m_circuit, .ref m_old]))] [] _ _ := q_pick I [0] [] rfl (by decide) rfl
          exact q_iret C hr I ⟨_, _, rfl, rfl, rfl, by rw [o_fault, if_pos (Or.inr c7)]; exact rfl⟩ (Nat.le_of_ble_eq_true rfl) (Nat.le_of_ble_eq_true rfl) d25_Mod_fault_42
      · skip
        refine lv_aload_n hx hb d25_Mod_fault_22 rfl (lv_at hl 0 rfl) ?_
        refine q_get C I 0 3 rfl rfl i_Mod (by decide) m25_5 rfl d25_Mod_fault_23 ?_
        refine lv_goto (tgt := 42) hx hb d25_Mod_fault_26 (by decide) ?_
        have I : q_I D q_cl _ s [(h0, .inr (13, [.ref m_input, .int 0, .int 1, .int 0, .int (-1), .ref m_tree, .ref m_other, .ref m_now, .ref m_spare, .ref m_circuit, .ref m_old]))] [] _ _ := q_pick I [0] [] rfl (by decide) rfl
        exact q_iret C hr I ⟨_, _, rfl, rfl, rfl, by rw [o_fault, if_pos (Or.inr c7)]; exact rfl⟩ (Nat.le_of_ble_eq_true rfl) (Nat.le_of_ble_eq_true rfl) d25_Mod_fault_42
set_option maxHeartbeats 4000000 in
set_option maxRecDepth 100000 in
/-- run(n) -/
theorem c_Mod_run (l : Launch) (D : va_G) (h0 : Nat) (m_input : Nat) (m_tree : Nat) (m_other : Nat) (m_now : Nat) (m_spare : Nat) (m_circuit : Nat) (m_old : Nat) (mf : List Value) (hm_there : mf[1]? = some (.int 0)) (n : Int32) : q_Met l ⟨"SignalTheatreModel", "run", "(I)I"⟩ (Cond.code ⟨"SignalTheatreModel", "run", "(I)I"⟩ prog_15_method_8_code 2 (some .int)) { frames := 0, cells := 0, slots := 0, locals := 0 } D q_cl [.ref h0, .int n] [(h0, .inr (13, [.ref m_input, .int 0, .int 0, .int 0, .int (-1), .ref m_tree, .ref m_other, .ref m_now, .ref m_spare, .ref m_circuit, .ref m_old])), (m_circuit, .inr (17, mf))] [] (fun r w ty => ∃ (fs : List Value) (z : Int32), r = .inl (some (.int z)) ∧ w = [(h0, .inr (13, fs))] ∧ ty = [] ∧ q_ag (o_run n) (if n < 1 ∨ ¬ n ≤ 20000 then 1 else 2) fs[2]? (some (.int z))) := by
  refine q_ofW (by decide) ?_
  intro p e s m below meth c C hr hin hex I
  have hx := C.1
  have hb := C.2.1
  have hl := lv_entry ([.ref h0, .int n]) (n := 2) (Nat.le_of_ble_eq_true rfl)
  rw [lg_entry_eq]
  generalize (lg_sl ([.ref h0, .int n]) ++ List.replicate (2 - (lg_sl ([.ref h0, .int n])).length) Slot.unset).toArray = ls at hl ⊢
  have hl : lv_has ls 2 [(0, .ref h0), (1, .int n)] := hl
  refine lv_aload_n hx hb d25_Mod_run_0 rfl (lv_at hl 0 rfl) ?_
  refine lv_iload_n hx hb d25_Mod_run_1 rfl (lv_at hl 1 rfl) ?_
  refine lv_iconst (v := 1) hx hb d25_Mod_run_2 (by decide) ?_
  refine lv_icmp_lt (tgt := 13) hx hb d25_Mod_run_3 (by decide) (fun c3 => ?_) (fun c3 => ?_)
  · skip
    refine lv_iconst (v := 1) hx hb d25_Mod_run_13 (by decide) ?_
    refine lv_goto (tgt := 32) hx hb d25_Mod_run_14 (by decide) ?_
    refine q_put t_Mod t_Mod_ok n_Mod C I 0 2 rfl rfl i_Mod (by decide) m25_0 rfl rfl rfl (Nat.le_of_ble_eq_true rfl) d25_Mod_run_32 (fun H locs I => ?_)
    have I : q_I D q_cl _ s [(h0, .inr (13, [.ref m_input, .int 0, .int 1, .int 0, .int (-1), .ref m_tree, .ref m_other, .ref m_now, .ref m_spare, .ref m_circuit, .ref m_old])), (m_circuit, .inr (17, mf))] [] H _ := I
    refine lv_aload_n hx hb d25_Mod_run_35 rfl (lv_at hl 0 rfl) ?_
    refine q_get C I 0 2 rfl rfl i_Mod (by decide) m25_0 rfl d25_Mod_run_36 ?_
    refine lv_if_le (tgt := 46) hx hb d25_Mod_run_39 (by decide) (fun h => absurd h (by decide)) (fun _ => ?_)
    refine lv_iconst (v := 0) hx hb d25_Mod_run_42 (by decide) ?_
    refine lv_goto (tgt := 54) hx hb d25_Mod_run_43 (by decide) ?_
    have I : q_I D q_cl _ s [(h0, .inr (13, [.ref m_input, .int 0, .int 1, .int 0, .int (-1), .ref m_tree, .ref m_other, .ref m_now, .ref m_spare, .ref m_circuit, .ref m_old]))] [] _ _ := q_pick I [0] [] rfl (by decide) rfl
    exact q_iret C hr I ⟨_, _, rfl, rfl, rfl, by rw [o_run, if_pos (Or.inl c3), if_pos (Or.inl c3)]; exact rfl⟩ (Nat.le_of_ble_eq_true rfl) (Nat.le_of_ble_eq_true rfl) d25_Mod_run_54
  · skip
    refine lv_iload_n hx hb d25_Mod_run_6 rfl (lv_at hl 1 rfl) ?_
    refine lv_sipush (v := 20000) hx hb d25_Mod_run_7 (by decide) ?_
    refine lv_icmp_le (tgt := 17) hx hb d25_Mod_run_10 (by decide) (fun c10 => ?_) (fun c10 => ?_)
    · skip
      refine lv_aload_n hx hb d25_Mod_run_17 rfl (lv_at hl 0 rfl) ?_
      refine q_get C I 0 9 rfl rfl i_Mod (by decide) m25_1 rfl d25_Mod_run_18 ?_
      refine q_get C I 1 1 rfl rfl i_Mci (by decide) m25_6 hm_there d25_Mod_run_21 ?_
      refine lv_if_ne (tgt := 31) hx hb d25_Mod_run_24 (by decide) (fun h => absurd h (by decide)) (fun _ => ?_)
      refine lv_iconst (v := 2) hx hb d25_Mod_run_27 (by decide) ?_
      refine lv_goto (tgt := 32) hx hb d25_Mod_run_28 (by decide) ?_
      refine q_put t_Mod t_Mod_ok n_Mod C I 0 2 rfl rfl i_Mod (by decide) m25_0 rfl rfl rfl (Nat.le_of_ble_eq_true rfl) d25_Mod_run_32 (fun H locs I => ?_)
      have I : q_I D q_cl _ s [(h0, .inr (13, [.ref m_input, .int 0, .int 2, .int 0, .int (-1), .ref m_tree, .ref m_other, .ref m_now, .ref m_spare, .ref m_circuit, .ref m_old])), (m_circuit, .inr (17, mf))] [] H _ := I
      refine lv_aload_n hx hb d25_Mod_run_35 rfl (lv_at hl 0 rfl) ?_
      refine q_get C I 0 2 rfl rfl i_Mod (by decide) m25_0 rfl d25_Mod_run_36 ?_
      refine lv_if_le (tgt := 46) hx hb d25_Mod_run_39 (by decide) (fun h => absurd h (by decide)) (fun _ => ?_)
      refine lv_iconst (v := 0) hx hb d25_Mod_run_42 (by decide) ?_
      refine lv_goto (tgt := 54) hx hb d25_Mod_run_43 (by decide) ?_
      have I : q_I D q_cl _ s [(h0, .inr (13, [.ref m_input, .int 0, .int 2, .int 0, .int (-1), .ref m_tree, .ref m_other, .ref m_now, .ref m_spare, .ref m_circuit, .ref m_old]))] [] _ _ := q_pick I [0] [] rfl (by decide) rfl
      exact q_iret C hr I ⟨_, _, rfl, rfl, rfl, by rw [o_run, if_neg (fun h : _ ∨ _ => h.elim c3 (fun h => h c10)), if_neg (fun h : _ ∨ _ => h.elim c3 (fun h => h c10))]; exact rfl⟩ (Nat.le_of_ble_eq_true rfl) (Nat.le_of_ble_eq_true rfl) d25_Mod_run_54
    · skip
      refine lv_iconst (v := 1) hx hb d25_Mod_run_13 (by decide) ?_
      refine lv_goto (tgt := 32) hx hb d25_Mod_run_14 (by decide) ?_
      refine q_put t_Mod t_Mod_ok n_Mod C I 0 2 rfl rfl i_Mod (by decide) m25_0 rfl rfl rfl (Nat.le_of_ble_eq_true rfl) d25_Mod_run_32 (fun H locs I => ?_)
      have I : q_I D q_cl _ s [(h0, .inr (13, [.ref m_input, .int 0, .int 1, .int 0, .int (-1), .ref m_tree, .ref m_other, .ref m_now, .ref m_spare, .ref m_circuit, .ref m_old])), (m_circuit, .inr (17, mf))] [] H _ := I
      refine lv_aload_n hx hb d25_Mod_run_35 rfl (lv_at hl 0 rfl) ?_
      refine q_get C I 0 2 rfl rfl i_Mod (by decide) m25_0 rfl d25_Mod_run_36 ?_
      refine lv_if_le (tgt := 46) hx hb d25_Mod_run_39 (by decide) (fun h => absurd h (by decide)) (fun _ => ?_)
      refine lv_iconst (v := 0) hx hb d25_Mod_run_42 (by decide) ?_
      refine lv_goto (tgt := 54) hx hb d25_Mod_run_43 (by decide) ?_
      have I : q_I D q_cl _ s [(h0, .inr (13, [.ref m_input, .int 0, .int 1, .int 0, .int (-1), .ref m_tree, .ref m_other, .ref m_now, .ref m_spare, .ref m_circuit, .ref m_old]))] [] _ _ := q_pick I [0] [] rfl (by decide) rfl
      exact q_iret C hr I ⟨_, _, rfl, rfl, rfl, by rw [o_run, if_pos (Or.inr c10), if_pos (Or.inr c10)]; exact rfl⟩ (Nat.le_of_ble_eq_true rfl) (Nat.le_of_ble_eq_true rfl) d25_Mod_run_54
set_option maxHeartbeats 4000000 in
set_option maxRecDepth 100000 in
/-- value(v, w, k) -/
theorem c_Mod_value (l : Launch) (D : va_G) (h0 : Nat) (m_input : Nat) (m_tree : Nat) (m_other : Nat) (m_now : Nat) (m_spare : Nat) (m_circuit : Nat) (m_old : Nat) (mf : List Value) (hm_vars : mf[24]? = some (.int 0)) (v : Int32) (w : Int32) (k : Int32) : q_Met l ⟨"SignalTheatreModel", "value", "(III)J"⟩ (Cond.code ⟨"SignalTheatreModel", "value", "(III)J"⟩ prog_15_method_10_code 4 (some .long)) { frames := 1, cells := 0, slots := 0, locals := 15 } D q_cl [.ref h0, .int v, .int w, .int k] [(h0, .inr (13, [.ref m_input, .int 0, .int 0, .int 0, .int (-1), .ref m_tree, .ref m_other, .ref m_now, .ref m_spare, .ref m_circuit, .ref m_old])), (m_circuit, .inr (17, mf))] [] (fun r w ty => ∃ (fs : List Value) (z : Int64), r = .inl (some (.long z)) ∧ w = [(h0, .inr (13, fs))] ∧ ty = [] ∧ q_ag (o_value k) (if k < 0 ∨ ¬ k ≤ 1 then 1 else 2) fs[2]? (some (.long z))) := by
  refine q_ofW (by decide) ?_
  intro p e s m below meth c C hr hin hex I
  have hx := C.1
  have hb := C.2.1
  have hl := lv_entry ([.ref h0, .int v, .int w, .int k]) (n := 4) (Nat.le_of_ble_eq_true rfl)
  rw [lg_entry_eq]
  generalize (lg_sl ([.ref h0, .int v, .int w, .int k]) ++ List.replicate (4 - (lg_sl ([.ref h0, .int v, .int w, .int k])).length) Slot.unset).toArray = ls at hl ⊢
  have hl : lv_has ls 4 [(0, .ref h0), (1, .int v), (2, .int w), (3, .int k)] := hl
  refine lv_aload_n hx hb d25_Mod_value_0 rfl (lv_at hl 0 rfl) ?_
  refine lv_iload_n hx hb d25_Mod_value_1 rfl (lv_at hl 3 rfl) ?_
  refine lv_if_lt (tgt := 10) hx hb d25_Mod_value_2 (by decide) (fun c2 => ?_) (fun c2 => ?_)
  · skip
    refine lv_iconst (v := 1) hx hb d25_Mod_value_10 (by decide) ?_
    refine lv_goto (tgt := 28) hx hb d25_Mod_value_11 (by decide) ?_
    refine q_put t_Mod t_Mod_ok n_Mod C I 0 2 rfl rfl i_Mod (by decide) m25_0 rfl rfl rfl (Nat.le_of_ble_eq_true rfl) d25_Mod_value_28 (fun H locs I => ?_)
    have I : q_I D q_cl _ s [(h0, .inr (13, [.ref m_input, .int 0, .int 1, .int 0, .int (-1), .ref m_tree, .ref m_other, .ref m_now, .ref m_spare, .ref m_circuit, .ref m_old])), (m_circuit, .inr (17, mf))] [] H _ := I
    refine lv_aload_n hx hb d25_Mod_value_31 rfl (lv_at hl 0 rfl) ?_
    refine q_get C I 0 2 rfl rfl i_Mod (by decide) m25_0 rfl d25_Mod_value_32 ?_
    refine lv_if_le (tgt := 42) hx hb d25_Mod_value_35 (by decide) (fun h => absurd h (by decide)) (fun _ => ?_)
    refine lv_lconst (v := 0) hx hb d25_Mod_value_38 (by decide) ?_
    refine lv_goto (tgt := 52) hx hb d25_Mod_value_39 (by decide) ?_
    have I : q_I D q_cl _ s [(h0, .inr (13, [.ref m_input, .int 0, .int 1, .int 0, .int (-1), .ref m_tree, .ref m_other, .ref m_now, .ref m_spare, .ref m_circuit, .ref m_old]))] [] _ _ := q_pick I [0] [] rfl (by decide) rfl
    exact q_lret C hr I ⟨_, _, rfl, rfl, rfl, by rw [o_value, if_pos (Or.inl c2), if_pos (Or.inl c2)]; exact rfl⟩ (Nat.le_of_ble_eq_true rfl) (Nat.le_of_ble_eq_true rfl) d25_Mod_value_52
  · skip
    refine lv_iload_n hx hb d25_Mod_value_5 rfl (lv_at hl 3 rfl) ?_
    refine lv_iconst (v := 1) hx hb d25_Mod_value_6 (by decide) ?_
    refine lv_icmp_le (tgt := 14) hx hb d25_Mod_value_7 (by decide) (fun c7 => ?_) (fun c7 => ?_)
    · skip
      refine lv_aload_n hx hb d25_Mod_value_14 rfl (lv_at hl 0 rfl) ?_
      refine lv_iload_n hx hb d25_Mod_value_15 rfl (lv_at hl 1 rfl) ?_
      refine lv_iload_n hx hb d25_Mod_value_16 rfl (lv_at hl 2 rfl) ?_
      refine q_go (wr := []) (tyr := []) C I (q_siteV (As := [.int v, .int w]) (rest := [.ref h0]) (q0 := 0) C I rfl rfl m25_7 m25_9 m25_10 m25_8 ⟨by decide, by decide⟩ (Eq.trans (b := some 2) (by decide +kernel) rfl) rfl d25_Mod_value_17) (c_Mod_isThere l D h0 m_input m_tree m_other m_now m_spare m_circuit m_old mf hm_vars (v) (w)) m25_8 m25_11 [0, 1] [] [] [] rfl rfl (by decide) (by decide) (by decide) rfl rfl hl.1 d25_Mod_value_17 (Nat.le_of_ble_eq_true rfl) (Nat.le_of_ble_eq_true rfl) (Nat.le_of_ble_eq_true rfl) (Nat.le_of_ble_eq_true rfl) (fun v w ty H locs hp I => ?_) (fun E w ty H locs q ce hp _ _ _ _ => ?_)
      rotate_left
      · obtain ⟨hv, -⟩ := hp; cases hv
      obtain ⟨hv, rfl, rfl⟩ := hp
      cases hv
      have I : q_I D q_cl _ s [(h0, .inr (13, [.ref m_input, .int 0, .int 0, .int 0, .int (-1), .ref m_tree, .ref m_other, .ref m_now, .ref m_spare, .ref m_circuit, .ref m_old])), (m_circuit, .inr (17, mf))] [] H _ := I
      refine W.eq (g2 := F0 m 20 ls [.int 0, .ref h0]) rfl ?_
      refine lv_if_ne (tgt := 27) hx hb d25_Mod_value_20 (by decide) (fun h => absurd h (by decide)) (fun _ => ?_)
      refine lv_iconst (v := 2) hx hb d25_Mod_value_23 (by decide) ?_
      refine lv_goto (tgt := 28) hx hb d25_Mod_value_24 (by decide) ?_
      refine q_put t_Mod t_Mod_ok n_Mod C I 0 2 rfl rfl i_Mod (by decide) m25_0 rfl rfl rfl (Nat.le_of_ble_eq_true rfl) d25_Mod_value_28 (fun H locs I => ?_)
      have I : q_I D q_cl _ s [(h0, .inr (13, [.ref m_input, .int 0, .int 2, .int 0, .int (-1), .ref m_tree, .ref m_other, .ref m_now, .ref m_spare, .ref m_circuit, .ref m_old])), (m_circuit, .inr (17, mf))] [] H _ := I
      refine lv_aload_n hx hb d25_Mod_value_31 rfl (lv_at hl 0 rfl) ?_
      refine q_get C I 0 2 rfl rfl i_Mod (by decide) m25_0 rfl d25_Mod_value_32 ?_
      refine lv_if_le (tgt := 42) hx hb d25_Mod_value_35 (by decide) (fun h => absurd h (by decide)) (fun _ => ?_)
      refine lv_lconst (v := 0) hx hb d25_Mod_value_38 (by decide) ?_
      refine lv_goto (tgt := 52) hx hb d25_Mod_value_39 (by decide) ?_
      have I : q_I D q_cl _ s [(h0, .inr (13, [.ref m_input, .int 0, .int 2, .int 0, .int (-1), .ref m_tree, .ref m_other, .ref m_now, .ref m_spare, .ref m_circuit, .ref m_old]))] [] _ _ := q_pick I [0] [] rfl (by decide) rfl
      exact q_lret C hr I ⟨_, _, rfl, rfl, rfl, by rw [o_value, if_neg (fun h : _ ∨ _ => h.elim c2 (fun h => h c7)), if_neg (fun h : _ ∨ _ => h.elim c2 (fun h => h c7))]; exact rfl⟩ (Nat.le_of_ble_eq_true rfl) (Nat.le_of_ble_eq_true rfl) d25_Mod_value_52
    · skip
      refine lv_iconst (v := 1) hx hb d25_Mod_value_10 (by decide) ?_
      refine lv_goto (tgt := 28) hx hb d25_Mod_value_11 (by decide) ?_
      refine q_put t_Mod t_Mod_ok n_Mod C I 0 2 rfl rfl i_Mod (by decide) m25_0 rfl rfl rfl (Nat.le_of_ble_eq_true rfl) d25_Mod_value_28 (fun H locs I => ?_)
      have I : q_I D q_cl _ s [(h0, .inr (13, [.ref m_input, .int 0, .int 1, .int 0, .int (-1), .ref m_tree, .ref m_other, .ref m_now, .ref m_spare, .ref m_circuit, .ref m_old])), (m_circuit, .inr (17, mf))] [] H _ := I
      refine lv_aload_n hx hb d25_Mod_value_31 rfl (lv_at hl 0 rfl) ?_
      refine q_get C I 0 2 rfl rfl i_Mod (by decide) m25_0 rfl d25_Mod_value_32 ?_
      refine lv_if_le (tgt := 42) hx hb d25_Mod_value_35 (by decide) (fun h => absurd h (by decide)) (fun _ => ?_)
      refine lv_lconst (v := 0) hx hb d25_Mod_value_38 (by decide) ?_
      refine lv_goto (tgt := 52) hx hb d25_Mod_value_39 (by decide) ?_
      have I : q_I D q_cl _ s [(h0, .inr (13, [.ref m_input, .int 0, .int 1, .int 0, .int (-1), .ref m_tree, .ref m_other, .ref m_now, .ref m_spare, .ref m_circuit, .ref m_old]))] [] _ _ := q_pick I [0] [] rfl (by decide) rfl
      exact q_lret C hr I ⟨_, _, rfl, rfl, rfl, by rw [o_value, if_pos (Or.inr c7), if_pos (Or.inr c7)]; exact rfl⟩ (Nat.le_of_ble_eq_true rfl) (Nat.le_of_ble_eq_true rfl) d25_Mod_value_52
set_option maxHeartbeats 4000000 in
set_option maxRecDepth 100000 in
/-- told(v, k) -/
theorem c_Mod_told (l : Launch) (D : va_G) (h0 : Nat) (m_input : Nat) (m_tree : Nat) (m_other : Nat) (m_now : Nat) (m_spare : Nat) (m_circuit : Nat) (m_old : Nat) (mf : List Value) (hm_vars : mf[24]? = some (.int 0)) (v : Int32) (k : Int32) : q_Met l ⟨"SignalTheatreModel", "told", "(II)I"⟩ (Cond.code ⟨"SignalTheatreModel", "told", "(II)I"⟩ prog_15_method_12_code 3 (some .int)) { frames := 1, cells := 0, slots := 0, locals := 15 } D q_cl [.ref h0, .int v, .int k] [(h0, .inr (13, [.ref m_input, .int 0, .int 0, .int 0, .int (-1), .ref m_tree, .ref m_other, .ref m_now, .ref m_spare, .ref m_circuit, .ref m_old])), (m_circuit, .inr (17, mf))] [] (fun r w ty => ∃ (fs : List Value) (z : Int32), r = .inl (some (.int z)) ∧ w = [(h0, .inr (13, fs))] ∧ ty = [] ∧ q_ag (o_told k) (if k < 0 ∨ ¬ k ≤ 4 then 1 else 2) fs[2]? (some (.int z))) := by
  refine q_ofW (by decide) ?_
  intro p e s m below meth c C hr hin hex I
  have hx := C.1
  have hb := C.2.1
  have hl := lv_entry ([.ref h0, .int v, .int k]) (n := 3) (Nat.le_of_ble_eq_true rfl)
  rw [lg_entry_eq]
  generalize (lg_sl ([.ref h0, .int v, .int k]) ++ List.replicate (3 - (lg_sl ([.ref h0, .int v, .int k])).length) Slot.unset).toArray = ls at hl ⊢
  have hl : lv_has ls 3 [(0, .ref h0), (1, .int v), (2, .int k)] := hl
  refine lv_aload_n hx hb d25_Mod_told_0 rfl (lv_at hl 0 rfl) ?_
  refine lv_iload_n hx hb d25_Mod_told_1 rfl (lv_at hl 2 rfl) ?_
  refine lv_if_lt (tgt := 10) hx hb d25_Mod_told_2 (by decide) (fun c2 => ?_) (fun c2 => ?_)
  · skip
    refine lv_iconst (v := 1) hx hb d25_Mod_told_10 (by decide) ?_
    refine lv_goto (tgt := 28) hx hb d25_Mod_told_11 (by decide) ?_
    refine q_put t_Mod t_Mod_ok n_Mod C I 0 2 rfl rfl i_Mod (by decide) m25_0 rfl rfl rfl (Nat.le_of_ble_eq_true rfl) d25_Mod_told_28 (fun H locs I => ?_)
    have I : q_I D q_cl _ s [(h0, .inr (13, [.ref m_input, .int 0, .int 1, .int 0, .int (-1), .ref m_tree, .ref m_other, .ref m_now, .ref m_spare, .ref m_circuit, .ref m_old])), (m_circuit, .inr (17, mf))] [] H _ := I
    refine lv_aload_n hx hb d25_Mod_told_31 rfl (lv_at hl 0 rfl) ?_
    refine q_get C I 0 2 rfl rfl i_Mod (by decide) m25_0 rfl d25_Mod_told_32 ?_
    refine lv_if_le (tgt := 40) hx hb d25_Mod_told_35 (by decide) (fun h => absurd h (by decide)) (fun _ => ?_)
    refine lv_iconst (v := 0) hx hb d25_Mod_told_38 (by decide) ?_
    have I : q_I D q_cl _ s [(h0, .inr (13, [.ref m_input, .int 0, .int 1, .int 0, .int (-1), .ref m_tree, .ref m_other, .ref m_now, .ref m_spare, .ref m_circuit, .ref m_old]))] [] _ _ := q_pick I [0] [] rfl (by decide) rfl
    exact q_iret C hr I ⟨_, _, rfl, rfl, rfl, by rw [o_told, if_pos (Or.inl c2), if_pos (Or.inl c2)]; exact rfl⟩ (Nat.le_of_ble_eq_true rfl) (Nat.le_of_ble_eq_true rfl) d25_Mod_told_39
  · skip
    refine lv_iload_n hx hb d25_Mod_told_5 rfl (lv_at hl 2 rfl) ?_
    refine lv_iconst (v := 4) hx hb d25_Mod_told_6 (by decide) ?_
    refine lv_icmp_le (tgt := 14) hx hb d25_Mod_told_7 (by decide) (fun c7 => ?_) (fun c7 => ?_)
    · skip
      refine lv_aload_n hx hb d25_Mod_told_14 rfl (lv_at hl 0 rfl) ?_
      refine lv_iload_n hx hb d25_Mod_told_15 rfl (lv_at hl 1 rfl) ?_
      refine lv_iconst (v := 0) hx hb d25_Mod_told_16 (by decide) ?_
      refine q_go (wr := []) (tyr := []) C I (q_siteV (As := [.int v, .int 0]) (rest := [.ref h0]) (q0 := 0) C I rfl rfl m25_7 m25_9 m25_10 m25_8 ⟨by decide, by decide⟩ (Eq.trans (b := some 2) (by decide +kernel) rfl) rfl d25_Mod_told_17) (c_Mod_isThere l D h0 m_input m_tree m_other m_now m_spare m_circuit m_old mf hm_vars (v) (0)) m25_8 m25_11 [0, 1] [] [] [] rfl rfl (by decide) (by decide) (by decide) rfl rfl hl.1 d25_Mod_told_17 (Nat.le_of_ble_eq_true rfl) (Nat.le_of_ble_eq_true rfl) (Nat.le_of_ble_eq_true rfl) (Nat.le_of_ble_eq_true rfl) (fun v w ty H locs hp I => ?_) (fun E w ty H locs q ce hp _ _ _ _ => ?_)
      rotate_left
      · obtain ⟨hv, -⟩ := hp; cases hv
      obtain ⟨hv, rfl, rfl⟩ := hp
      cases hv
      have I : q_I D q_cl _ s [(h0, .inr (13, [.ref m_input, .int 0, .int 0, .int 0, .int (-1), .ref m_tree, .ref m_other, .ref m_now, .ref m_spare, .ref m_circuit, .ref m_old])), (m_circuit, .inr (17, mf))] [] H _ := I
      refine W.eq (g2 := F0 m 20 ls [.int 0, .ref h0]) rfl ?_
      refine lv_if_ne (tgt := 27) hx hb d25_Mod_told_20 (by decide) (fun h => absurd h (by decide)) (fun _ => ?_)
      refine lv_iconst (v := 2) hx hb d25_Mod_told_23 (by decide) ?_
      refine lv_goto (tgt := 28) hx hb d25_Mod_told_24 (by decide) ?_
      refine q_put t_Mod t_Mod_ok n_Mod C I 0 2 rfl rfl i_Mod (by decide) m25_0 rfl rfl rfl (Nat.le_of_ble_eq_true rfl) d25_Mod_told_28 (fun H locs I => ?_)
      have I : q_I D q_cl _ s [(h0, .inr (13, [.ref m_input, .int 0, .int 2, .int 0, .int (-1), .ref m_tree, .ref m_other, .ref m_now, .ref m_spare, .ref m_circuit, .ref m_old])), (m_circuit, .inr (17, mf))] [] H _ := I
      refine lv_aload_n hx hb d25_Mod_told_31 rfl (lv_at hl 0 rfl) ?_
      refine q_get C I 0 2 rfl rfl i_Mod (by decide) m25_0 rfl d25_Mod_told_32 ?_
      refine lv_if_le (tgt := 40) hx hb d25_Mod_told_35 (by decide) (fun h => absurd h (by decide)) (fun _ => ?_)
      refine lv_iconst (v := 0) hx hb d25_Mod_told_38 (by decide) ?_
      have I : q_I D q_cl _ s [(h0, .inr (13, [.ref m_input, .int 0, .int 2, .int 0, .int (-1), .ref m_tree, .ref m_other, .ref m_now, .ref m_spare, .ref m_circuit, .ref m_old]))] [] _ _ := q_pick I [0] [] rfl (by decide) rfl
      exact q_iret C hr I ⟨_, _, rfl, rfl, rfl, by rw [o_told, if_neg (fun h : _ ∨ _ => h.elim c2 (fun h => h c7)), if_neg (fun h : _ ∨ _ => h.elim c2 (fun h => h c7))]; exact rfl⟩ (Nat.le_of_ble_eq_true rfl) (Nat.le_of_ble_eq_true rfl) d25_Mod_told_39
    · skip
      refine lv_iconst (v := 1) hx hb d25_Mod_told_10 (by decide) ?_
      refine lv_goto (tgt := 28) hx hb d25_Mod_told_11 (by decide) ?_
      refine q_put t_Mod t_Mod_ok n_Mod C I 0 2 rfl rfl i_Mod (by decide) m25_0 rfl rfl rfl (Nat.le_of_ble_eq_true rfl) d25_Mod_told_28 (fun H locs I => ?_)
      have I : q_I D q_cl _ s [(h0, .inr (13, [.ref m_input, .int 0, .int 1, .int 0, .int (-1), .ref m_tree, .ref m_other, .ref m_now, .ref m_spare, .ref m_circuit, .ref m_old])), (m_circuit, .inr (17, mf))] [] H _ := I
      refine lv_aload_n hx hb d25_Mod_told_31 rfl (lv_at hl 0 rfl) ?_
      refine q_get C I 0 2 rfl rfl i_Mod (by decide) m25_0 rfl d25_Mod_told_32 ?_
      refine lv_if_le (tgt := 40) hx hb d25_Mod_told_35 (by decide) (fun h => absurd h (by decide)) (fun _ => ?_)
      refine lv_iconst (v := 0) hx hb d25_Mod_told_38 (by decide) ?_
      have I : q_I D q_cl _ s [(h0, .inr (13, [.ref m_input, .int 0, .int 1, .int 0, .int (-1), .ref m_tree, .ref m_other, .ref m_now, .ref m_spare, .ref m_circuit, .ref m_old]))] [] _ _ := q_pick I [0] [] rfl (by decide) rfl
      exact q_iret C hr I ⟨_, _, rfl, rfl, rfl, by rw [o_told, if_pos (Or.inr c7), if_pos (Or.inr c7)]; exact rfl⟩ (Nat.le_of_ble_eq_true rfl) (Nat.le_of_ble_eq_true rfl) d25_Mod_told_39
set_option maxHeartbeats 4000000 in
set_option maxRecDepth 100000 in
/-- set(..) -/
theorem c_Mod_set (l : Launch) (D : va_G) (h0 : Nat) (m_input : Nat) (m_tree : Nat) (m_other : Nat) (m_now : Nat) (m_spare : Nat) (m_circuit : Nat) (m_old : Nat) (mf : List Value) (hm_vars : mf[24]? = some (.int 0)) (v : Int32) (w : Int32) (x : Int64) (y : Int64) : q_Met l ⟨"SignalTheatreModel", "set", "(IIJJ)V"⟩ (Cond.code ⟨"SignalTheatreModel", "set", "(IIJJ)V"⟩ prog_15_method_11_code 7 none) { frames := 1, cells := 0, slots := 0, locals := 15 } D q_cl [.ref h0, .int v, .int w, .long x, .long y] [(h0, .inr (13, [.ref m_input, .int 0, .int 0, .int 0, .int (-1), .ref m_tree, .ref m_other, .ref m_now, .ref m_spare, .ref m_circuit, .ref m_old])), (m_circuit, .inr (17, mf))] [] (fun r w ty => ∃ (fs : List Value), r = .inl none ∧ w = [(h0, .inr (13, fs))] ∧ ty = [] ∧ q_ag (.inr "java/util/NoSuchElementException") (1) fs[2]? none) := by
  refine q_ofW (by decide) ?_
  intro p e s m below meth c C hr hin hex I
  have hx := C.1
  have hb := C.2.1
  have hl := lv_entry ([.ref h0, .int v, .int w, .long x, .long y]) (n := 7) (Nat.le_of_ble_eq_true rfl)
  rw [lg_entry_eq]
  generalize (lg_sl ([.ref h0, .int v, .int w, .long x, .long y]) ++ List.replicate (7 - (lg_sl ([.ref h0, .int v, .int w, .long x, .long y])).length) Slot.unset).toArray = ls at hl ⊢
  have hl : lv_has ls 7 [(0, .ref h0), (1, .int v), (2, .int w), (3, .long x), (5, .long y)] := hl
  refine lv_aload_n hx hb d25_Mod_set_0 rfl (lv_at hl 0 rfl) ?_
  refine lv_aload_n hx hb d25_Mod_set_1 rfl (lv_at hl 0 rfl) ?_
  refine lv_iload_n hx hb d25_Mod_set_2 rfl (lv_at hl 1 rfl) ?_
  refine lv_iload_n hx hb d25_Mod_set_3 rfl (lv_at hl 2 rfl) ?_
  refine q_go (wr := []) (tyr := []) C I (q_siteV (As := [.int v, .int w]) (rest := [.ref h0]) (q0 := 0) C I rfl rfl m25_7 m25_9 m25_10 m25_8 ⟨by decide, by decide⟩ (Eq.trans (b := some 2) (by decide +kernel) rfl) rfl d25_Mod_set_4) (c_Mod_isThere l D h0 m_input m_tree m_other m_now m_spare m_circuit m_old mf hm_vars (v) (w)) m25_8 m25_11 [0, 1] [] [] [] rfl rfl (by decide) (by decide) (by decide) rfl rfl hl.1 d25_Mod_set_4 (Nat.le_of_ble_eq_true rfl) (Nat.le_of_ble_eq_true rfl) (Nat.le_of_ble_eq_true rfl) (Nat.le_of_ble_eq_true rfl) (fun v w ty H locs hp I => ?_) (fun E w ty H locs q ce hp _ _ _ _ => ?_)
  rotate_left
  · obtain ⟨hv, -⟩ := hp; cases hv
  obtain ⟨hv, rfl, rfl⟩ := hp
  cases hv
  have I : q_I D q_cl _ s [(h0, .inr (13, [.ref m_input, .int 0, .int 0, .int 0, .int (-1), .ref m_tree, .ref m_other, .ref m_now, .ref m_spare, .ref m_circuit, .ref m_old])), (m_circuit, .inr (17, mf))] [] H _ := I
  refine W.eq (g2 := F0 m 7 ls [.int 0, .ref h0]) rfl ?_
  refine lv_if_eq (tgt := 22) hx hb d25_Mod_set_7 (by decide) (fun _ => ?_) (fun h => absurd h (by decide))
  refine lv_iconst (v := 1) hx hb d25_Mod_set_22 (by decide) ?_
  refine lv_goto (tgt := 27) hx hb d25_Mod_set_23 (by decide) ?_
  refine q_put t_Mod t_Mod_ok n_Mod C I 0 2 rfl rfl i_Mod (by decide) m25_0 rfl rfl rfl (Nat.le_of_ble_eq_true rfl) d25_Mod_set_27 (fun H locs I => ?_)
  have I : q_I D q_cl _ s [(h0, .inr (13, [.ref m_input, .int 0, .int 1, .int 0, .int (-1), .ref m_tree, .ref m_other, .ref m_now, .ref m_spare, .ref m_circuit, .ref m_old])), (m_circuit, .inr (17, mf))] [] H _ := I
  refine lv_aload_n hx hb d25_Mod_set_30 rfl (lv_at hl 0 rfl) ?_
  refine q_get C I 0 2 rfl rfl i_Mod (by decide) m25_0 rfl d25_Mod_set_31 ?_
  refine lv_if_ne (tgt := 61) hx hb d25_Mod_set_34 (by decide) (fun _ => ?_) (fun h => absurd h (by decide))
  have I : q_I D q_cl _ s [(h0, .inr (13, [.ref m_input, .int 0, .int 1, .int 0, .int (-1), .ref m_tree, .ref m_other, .ref m_now, .ref m_spare, .ref m_circuit, .ref m_old]))] [] _ _ := q_pick I [0] [] rfl (by decide) rfl
  exact q_vret C hr I ⟨_, rfl, rfl, rfl, rfl⟩ (Nat.le_of_ble_eq_true rfl) (Nat.le_of_ble_eq_true rfl) d25_Mod_set_61
set_option maxHeartbeats 4000000 in
set_option maxRecDepth 100000 in
/-- letter(..) -/
theorem c_Mod_letter (l : Launch) (D : va_G) (h0 : Nat) (m_input : Nat) (m_tree : Nat) (m_other : Nat) (m_now : Nat) (m_spare : Nat) (m_circuit : Nat) (m_old : Nat) (mf : List Value) (hm_vars : mf[24]? = some (.int 0)) (v : Int32) (i : Int32) : q_Met l ⟨"SignalTheatreModel", "letter", "(II)I"⟩ (Cond.code ⟨"SignalTheatreModel", "letter", "(II)I"⟩ prog_15_method_13_code 3 (some .int)) { frames := 1, cells := 0, slots := 0, locals := 15 } D q_cl [.ref h0, .int v, .int i] [(h0, .inr (13, [.ref m_input, .int 0, .int 0, .int 0, .int (-1), .ref m_tree, .ref m_other, .ref m_now, .ref m_spare, .ref m_circuit, .ref m_old])), (m_circuit, .inr (17, mf))] [] (fun r w ty => ∃ (fs : List Value) (z : Int32), r = .inl (some (.int z)) ∧ w = [(h0, .inr (13, fs))] ∧ ty = [] ∧ q_ag (.inr "java/util/NoSuchElementException") (1) fs[2]? (some (.int z))) := by
  refine q_ofW (by decide) ?_
  intro p e s m below meth c C hr hin hex I
  have hx := C.1
  have hb := C.2.1
  have hl := lv_entry ([.ref h0, .int v, .int i]) (n := 3) (Nat.le_of_ble_eq_true rfl)
  rw [lg_entry_eq]
  generalize (lg_sl ([.ref h0, .int v, .int i]) ++ List.replicate (3 - (lg_sl ([.ref h0, .int v, .int i])).length) Slot.unset).toArray = ls at hl ⊢
  have hl : lv_has ls 3 [(0, .ref h0), (1, .int v), (2, .int i)] := hl
  refine lv_aload_n hx hb d25_Mod_letter_0 rfl (lv_at hl 0 rfl) ?_
  refine lv_aload_n hx hb d25_Mod_letter_1 rfl (lv_at hl 0 rfl) ?_
  refine lv_iload_n hx hb d25_Mod_letter_2 rfl (lv_at hl 1 rfl) ?_
  refine lv_iconst (v := 0) hx hb d25_Mod_letter_3 (by decide) ?_
  refine q_go (wr := []) (tyr := []) C I (q_siteV (As := [.int v, .int 0]) (rest := [.ref h0]) (q0 := 0) C I rfl rfl m25_7 m25_9 m25_10 m25_8 ⟨by decide, by decide⟩ (Eq.trans (b := some 2) (by decide +kernel) rfl) rfl d25_Mod_letter_4) (c_Mod_isThere l D h0 m_input m_tree m_other m_now m_spare m_circuit m_old mf hm_vars (v) (0)) m25_8 m25_11 [0, 1] [] [] [] rfl rfl (by decide) (by decide) (by decide) rfl rfl hl.1 d25_Mod_letter_4 (Nat.le_of_ble_eq_true rfl) (Nat.le_of_ble_eq_true rfl) (Nat.le_of_ble_eq_true rfl) (Nat.le_of_ble_eq_true rfl) (fun v w ty H locs hp I => ?_) (fun E w ty H locs q ce hp _ _ _ _ => ?_)
  rotate_left
  · obtain ⟨hv, -⟩ := hp; cases hv
  obtain ⟨hv, rfl, rfl⟩ := hp
  cases hv
  have I : q_I D q_cl _ s [(h0, .inr (13, [.ref m_input, .int 0, .int 0, .int 0, .int (-1), .ref m_tree, .ref m_other, .ref m_now, .ref m_spare, .ref m_circuit, .ref m_old])), (m_circuit, .inr (17, mf))] [] H _ := I
  refine W.eq (g2 := F0 m 7 ls [.int 0, .ref h0]) rfl ?_
  refine lv_if_eq (tgt := 26) hx hb d25_Mod_letter_7 (by decide) (fun _ => ?_) (fun h => absurd h (by decide))
  refine lv_iconst (v := 1) hx hb d25_Mod_letter_26 (by decide) ?_
  refine lv_goto (tgt := 31) hx hb d25_Mod_letter_27 (by decide) ?_
  refine q_put t_Mod t_Mod_ok n_Mod C I 0 2 rfl rfl i_Mod (by decide) m25_0 rfl rfl rfl (Nat.le_of_ble_eq_true rfl) d25_Mod_letter_31 (fun H locs I => ?_)
  have I : q_I D q_cl _ s [(h0, .inr (13, [.ref m_input, .int 0, .int 1, .int 0, .int (-1), .ref m_tree, .ref m_other, .ref m_now, .ref m_spare, .ref m_circuit, .ref m_old])), (m_circuit, .inr (17, mf))] [] H _ := I
  refine lv_aload_n hx hb d25_Mod_letter_34 rfl (lv_at hl 0 rfl) ?_
  refine q_get C I 0 2 rfl rfl i_Mod (by decide) m25_0 rfl d25_Mod_letter_35 ?_
  refine lv_if_le (tgt := 45) hx hb d25_Mod_letter_38 (by decide) (fun h => absurd h (by decide)) (fun _ => ?_)
  refine lv_iconst (v := 0) hx hb d25_Mod_letter_41 (by decide) ?_
  refine lv_goto (tgt := 54) hx hb d25_Mod_letter_42 (by decide) ?_
  have I : q_I D q_cl _ s [(h0, .inr (13, [.ref m_input, .int 0, .int 1, .int 0, .int (-1), .ref m_tree, .ref m_other, .ref m_now, .ref m_spare, .ref m_circuit, .ref m_old]))] [] _ _ := q_pick I [0] [] rfl (by decide) rfl
  exact q_iret C hr I ⟨_, _, rfl, rfl, rfl, rfl⟩ (Nat.le_of_ble_eq_true rfl) (Nat.le_of_ble_eq_true rfl) d25_Mod_letter_54
set_option maxHeartbeats 4000000 in
set_option maxRecDepth 100000 in
/-- log(i) -/
theorem c_Mod_log (l : Launch) (D : va_G) (h0 : Nat) (m_input : Nat) (m_tree : Nat) (m_other : Nat) (m_now : Nat) (m_spare : Nat) (m_circuit : Nat) (m_old : Nat) (mf : List Value) (hm_logged : mf[74]? = some (.int 0)) (i : Int32) : q_Met l ⟨"SignalTheatreModel", "log", "(I)I"⟩ (Cond.code ⟨"SignalTheatreModel", "log", "(I)I"⟩ prog_15_method_14_code 2 (some .int)) { frames := 0, cells := 0, slots := 0, locals := 0 } D q_cl [.ref h0, .int i] [(h0, .inr (13, [.ref m_input, .int 0, .int 0, .int 0, .int (-1), .ref m_tree, .ref m_other, .ref m_now, .ref m_spare, .ref m_circuit, .ref m_old])), (m_circuit, .inr (17, mf))] [] (fun r w ty => ∃ (fs : List Value) (z : Int32), r = .inl (some (.int z)) ∧ w = [(h0, .inr (13, fs))] ∧ ty = [] ∧ q_ag (.inr "java/lang/IndexOutOfBoundsException") (1) fs[2]? (some (.int z))) := by
  refine q_ofW (by decide) ?_
  intro p e s m below meth c C hr hin hex I
  have hx := C.1
  have hb := C.2.1
  have hl := lv_entry ([.ref h0, .int i]) (n := 2) (Nat.le_of_ble_eq_true rfl)
  rw [lg_entry_eq]
  generalize (lg_sl ([.ref h0, .int i]) ++ List.replicate (2 - (lg_sl ([.ref h0, .int i])).length) Slot.unset).toArray = ls at hl ⊢
  have hl : lv_has ls 2 [(0, .ref h0), (1, .int i)] := hl
  refine lv_aload_n hx hb d25_Mod_log_0 rfl (lv_at hl 0 rfl) ?_
  refine lv_iload_n hx hb d25_Mod_log_1 rfl (lv_at hl 1 rfl) ?_
  refine lv_if_lt (tgt := 16) hx hb d25_Mod_log_2 (by decide) (fun c2 => ?_) (fun c2 => ?_)
  · skip
    refine lv_iconst (v := 1) hx hb d25_Mod_log_16 (by decide) ?_
    refine lv_goto (tgt := 21) hx hb d25_Mod_log_17 (by decide) ?_
    refine q_put t_Mod t_Mod_ok n_Mod C I 0 2 rfl rfl i_Mod (by decide) m25_0 rfl rfl rfl (Nat.le_of_ble_eq_true rfl) d25_Mod_log_21 (fun H locs I => ?_)
    have I : q_I D q_cl _ s [(h0, .inr (13, [.ref m_input, .int 0, .int 1, .int 0, .int (-1), .ref m_tree, .ref m_other, .ref m_now, .ref m_spare, .ref m_circuit, .ref m_old])), (m_circuit, .inr (17, mf))] [] H _ := I
    refine lv_aload_n hx hb d25_Mod_log_24 rfl (lv_at hl 0 rfl) ?_
    refine q_get C I 0 2 rfl rfl i_Mod (by decide) m25_0 rfl d25_Mod_log_25 ?_
    refine lv_if_le (tgt := 35) hx hb d25_Mod_log_28 (by decide) (fun h => absurd h (by decide)) (fun _ => ?_)
    refine lv_iconst (v := 0) hx hb d25_Mod_log_31 (by decide) ?_
    refine lv_goto (tgt := 48) hx hb d25_Mod_log_32 (by decide) ?_
    have I : q_I D q_cl _ s [(h0, .inr (13, [.ref m_input, .int 0, .int 1, .int 0, .int (-1), .ref m_tree, .ref m_other, .ref m_now, .ref m_spare, .ref m_circuit, .ref m_old]))] [] _ _ := q_pick I [0] [] rfl (by decide) rfl
    exact q_iret C hr I ⟨_, _, rfl, rfl, rfl, rfl⟩ (Nat.le_of_ble_eq_true rfl) (Nat.le_of_ble_eq_true rfl) d25_Mod_log_48
  · skip
    refine lv_iload_n hx hb d25_Mod_log_5 rfl (lv_at hl 1 rfl) ?_
    refine lv_aload_n hx hb d25_Mod_log_6 rfl (lv_at hl 0 rfl) ?_
    refine q_get C I 0 9 rfl rfl i_Mod (by decide) m25_1 rfl d25_Mod_log_7 ?_
    refine q_get C I 1 74 rfl rfl i_Mci (by decide) m25_12 hm_logged d25_Mod_log_10 ?_
    refine lv_icmp_lt (tgt := 20) hx hb d25_Mod_log_13 (by decide) (fun h => absurd h c2) (fun _ => ?_)
    refine lv_iconst (v := 1) hx hb d25_Mod_log_16 (by decide) ?_
    refine lv_goto (tgt := 21) hx hb d25_Mod_log_17 (by decide) ?_
    refine q_put t_Mod t_Mod_ok n_Mod C I 0 2 rfl rfl i_Mod (by decide) m25_0 rfl rfl rfl (Nat.le_of_ble_eq_true rfl) d25_Mod_log_21 (fun H locs I => ?_)
    have I : q_I D q_cl _ s [(h0, .inr (13, [.ref m_input, .int 0, .int 1, .int 0, .int (-1), .ref m_tree, .ref m_other, .ref m_now, .ref m_spare, .ref m_circuit, .ref m_old])), (m_circuit, .inr (17, mf))] [] H _ := I
    refine lv_aload_n hx hb d25_Mod_log_24 rfl (lv_at hl 0 rfl) ?_
    refine q_get C I 0 2 rfl rfl i_Mod (by decide) m25_0 rfl d25_Mod_log_25 ?_
    refine lv_if_le (tgt := 35) hx hb d25_Mod_log_28 (by decide) (fun h => absurd h (by decide)) (fun _ => ?_)
    refine lv_iconst (v := 0) hx hb d25_Mod_log_31 (by decide) ?_
    refine lv_goto (tgt := 48) hx hb d25_Mod_log_32 (by decide) ?_
    have I : q_I D q_cl _ s [(h0, .inr (13, [.ref m_input, .int 0, .int 1, .int 0, .int (-1), .ref m_tree, .ref m_other, .ref m_now, .ref m_spare, .ref m_circuit, .ref m_old]))] [] _ _ := q_pick I [0] [] rfl (by decide) rfl
    exact q_iret C hr I ⟨_, _, rfl, rfl, rfl, rfl⟩ (Nat.le_of_ble_eq_true rfl) (Nat.le_of_ble_eq_true rfl) d25_Mod_log_48
set_option maxHeartbeats 4000000 in
set_option maxRecDepth 100000 in
/-- time() -/
theorem c_Mod_time (l : Launch) (D : va_G) (h0 : Nat) (m_input : Nat) (m_tree : Nat) (m_other : Nat) (m_now : Nat) (m_spare : Nat) (m_circuit : Nat) (m_old : Nat) (mf : List Value) (hm_time : mf[51]? = some (.long 0)) : q_Met l ⟨"SignalTheatreModel", "time", "()J"⟩ (Cond.code ⟨"SignalTheatreModel", "time", "()J"⟩ prog_15_method_15_code 1 (some .long)) { frames := 0, cells := 0, slots := 0, locals := 0 } D q_cl [.ref h0] [(h0, .inr (13, [.ref m_input, .int 0, .int 0, .int 0, .int (-1), .ref m_tree, .ref m_other, .ref m_now, .ref m_spare, .ref m_circuit, .ref m_old])), (m_circuit, .inr (17, mf))] [] (fun r w ty => ∃ (fs : List Value) (z : Int64), r = .inl (some (.long z)) ∧ w = [(h0, .inr (13, fs))] ∧ ty = [] ∧ q_ag (.inl (some (.long 0))) (1) fs[2]? (some (.long z))) := by
  refine q_ofW (by decide) ?_
  intro p e s m below meth c C hr hin hex I
  have hx := C.1
  have hb := C.2.1
  have hl := lv_entry ([.ref h0]) (n := 1) (Nat.le_of_ble_eq_true rfl)
  rw [lg_entry_eq]
  generalize (lg_sl ([.ref h0]) ++ List.replicate (1 - (lg_sl ([.ref h0])).length) Slot.unset).toArray = ls at hl ⊢
  have hl : lv_has ls 1 [(0, .ref h0)] := hl
  refine lv_aload_n hx hb d25_Mod_time_0 rfl (lv_at hl 0 rfl) ?_
  refine lv_iconst (v := 0) hx hb d25_Mod_time_1 (by decide) ?_
  refine q_put t_Mod t_Mod_ok n_Mod C I 0 2 rfl rfl i_Mod (by decide) m25_0 rfl rfl rfl (Nat.le_of_ble_eq_true rfl) d25_Mod_time_2 (fun H locs I => ?_)
  have I : q_I D q_cl _ s [(h0, .inr (13, [.ref m_input, .int 0, .int 0, .int 0, .int (-1), .ref m_tree, .ref m_other, .ref m_now, .ref m_spare, .ref m_circuit, .ref m_old])), (m_circuit, .inr (17, mf))] [] H _ := I
  refine lv_aload_n hx hb d25_Mod_time_5 rfl (lv_at hl 0 rfl) ?_
  refine q_get C I 0 9 rfl rfl i_Mod (by decide) m25_1 rfl d25_Mod_time_6 ?_
  refine q_get C I 1 51 rfl rfl i_Mci (by decide) m25_13 hm_time d25_Mod_time_9 ?_
  have I : q_I D q_cl _ s [(h0, .inr (13, [.ref m_input, .int 0, .int 0, .int 0, .int (-1), .ref m_tree, .ref m_other, .ref m_now, .ref m_spare, .ref m_circuit, .ref m_old]))] [] _ _ := q_pick I [0] [] rfl (by decide) rfl
  exact q_lret C hr I ⟨_, _, rfl, rfl, rfl, rfl, rfl⟩ (Nat.le_of_ble_eq_true rfl) (Nat.le_of_ble_eq_true rfl) d25_Mod_time_12
set_option maxHeartbeats 4000000 in
set_option maxRecDepth 100000 in
/-- cost(): nothing there -/
theorem c_Mci_cost (l : Launch) (D : va_G) (h0 : Nat) (mf : List Value) (hm_cost : mf[71]? = some (.int 0)) : q_Met l ⟨"SignalTheatreModel$Circuit", "cost", "()I"⟩ (Cond.code ⟨"SignalTheatreModel$Circuit", "cost", "()I"⟩ prog_16_method_134_code 1 (some .int)) { frames := 0, cells := 0, slots := 0, locals := 0 } D q_cl [.ref h0] [(h0, .inr (17, mf))] [] (fun r w ty => r = .inl (some (.int 0)) ∧ w = [(h0, .inr (17, mf))] ∧ ty = []) := by
  refine q_ofW (by decide) ?_
  intro p e s m below meth c C hr hin hex I
  have hx := C.1
  have hb := C.2.1
  have hl := lv_entry ([.ref h0]) (n := 1) (Nat.le_of_ble_eq_true rfl)
  rw [lg_entry_eq]
  generalize (lg_sl ([.ref h0]) ++ List.replicate (1 - (lg_sl ([.ref h0])).length) Slot.unset).toArray = ls at hl ⊢
  have hl : lv_has ls 1 [(0, .ref h0)] := hl
  refine lv_aload_n hx hb d25_Mci_cost_0 rfl (lv_at hl 0 rfl) ?_
  refine q_get C I 0 71 rfl rfl i_Mci (by decide) m25_14 hm_cost d25_Mci_cost_1 ?_
  exact q_iret C hr I ⟨rfl, rfl, rfl⟩ (Nat.le_of_ble_eq_true rfl) (Nat.le_of_ble_eq_true rfl) d25_Mci_cost_4
set_option maxHeartbeats 4000000 in
set_option maxRecDepth 100000 in
/-- processesIn(): nothing there -/
theorem c_Mci_processesIn (l : Launch) (D : va_G) (h0 : Nat) (mf : List Value) (hm_processes : mf[37]? = some (.int 0)) (k : Int32) : q_Met l ⟨"SignalTheatreModel$Circuit", "processesIn", "(I)I"⟩ (Cond.code ⟨"SignalTheatreModel$Circuit", "processesIn", "(I)I"⟩ prog_16_method_135_code 4 (some .int)) { frames := 0, cells := 0, slots := 0, locals := 0 } D q_cl [.ref h0, .int k] [(h0, .inr (17, mf))] [] (fun r w ty => r = .inl (some (.int 0)) ∧ w = [(h0, .inr (17, mf))] ∧ ty = []) := by
  refine q_ofW (by decide) ?_
  intro p e s m below meth c C hr hin hex I
  have hx := C.1
  have hb := C.2.1
  have hl := lv_entry ([.ref h0, .int k]) (n := 4) (Nat.le_of_ble_eq_true rfl)
  rw [lg_entry_eq]
  generalize (lg_sl ([.ref h0, .int k]) ++ List.replicate (4 - (lg_sl ([.ref h0, .int k])).length) Slot.unset).toArray = ls at hl ⊢
  have hl : lv_has ls 4 [(0, .ref h0), (1, .int k)] := hl
  refine lv_iconst (v := 0) hx hb d25_Mci_processesIn_0 (by decide) ?_
  refine lv_istore_n (lv' := [(2, .int 0), (0, .ref h0), (1, .int k)]) hx hb d25_Mci_processesIn_1 rfl hl (by decide) rfl (fun ls hl => ?_)
  refine lv_iconst (v := 0) hx hb d25_Mci_processesIn_2 (by decide) ?_
  refine lv_istore_n (lv' := [(3, .int 0), (2, .int 0), (0, .ref h0), (1, .int k)]) hx hb d25_Mci_processesIn_3 rfl hl (by decide) rfl (fun ls hl => ?_)
  refine lv_iload_n hx hb d25_Mci_processesIn_4 rfl (lv_at hl 0 rfl) ?_
  refine lv_aload_n hx hb d25_Mci_processesIn_5 rfl (lv_at hl 2 rfl) ?_
  refine q_get C I 0 37 rfl rfl i_Mci (by decide) m25_15 hm_processes d25_Mci_processesIn_6 ?_
  refine lv_icmp_ge (tgt := 31) hx hb d25_Mci_processesIn_9 (by decide) (fun _ => ?_) (fun h => absurd h (by decide))
  refine lv_iload_n hx hb d25_Mci_processesIn_31 rfl (lv_at hl 1 rfl) ?_
  exact q_iret C hr I ⟨rfl, rfl, rfl⟩ (Nat.le_of_ble_eq_true rfl) (Nat.le_of_ble_eq_true rfl) d25_Mci_processesIn_32
theorem q_cnt {k : Int32} (h : k.toInt < 0 ∨ 11 < k.toInt) : o_count k = -1 := by
  have e0 : (0 : Int32).toInt = 0 := rfl
  have e1 : (11 : Int32).toInt = 11 := rfl
  have h0 : ¬ k = 0 := by
    rw [← Int32.toInt_inj]
    omega
  rw [o_count, if_pos h0, if_pos]
  rw [Int32.lt_iff_toInt_lt, Int32.le_iff_toInt_le]
  omega
set_option maxHeartbeats 4000000 in
set_option maxRecDepth 100000 in
/-- count(k) -/
theorem c_Mod_count (l : Launch) (D : va_G) (h0 : Nat) (m_input : Nat) (m_tree : Nat) (m_other : Nat) (m_now : Nat) (m_spare : Nat) (m_circuit : Nat) (m_old : Nat) (r_active : Nat) (r_inactive : Nat) (r_later : Nat) (r_future : Nat) (mf : List Value) (hm_vars : mf[24]? = some (.int 0)) (hm_drives : mf[36]? = some (.int 0)) (hm_processes : mf[37]? = some (.int 0)) (hm_logged : mf[74]? = some (.int 0)) (hm_cost : mf[71]? = some (.int 0)) (hm_active : mf[56]? = some (.ref r_active)) (hm_inactive : mf[57]? = some (.ref r_inactive)) (hm_later : mf[58]? = some (.ref r_later)) (hm_future : mf[59]? = some (.ref r_future)) (rf_active : List Value) (rf_inactive : List Value) (rf_later : List Value) (rf_future : List Value) (hr_active : rf_active[8]? = some (.int 0)) (hr_inactive : rf_inactive[8]? = some (.int 0)) (hr_later : rf_later[8]? = some (.int 0)) (hr_future : rf_future[8]? = some (.int 0)) (k : Int32) : q_Met l ⟨"SignalTheatreModel", "count", "(I)I"⟩ (Cond.code ⟨"SignalTheatreModel", "count", "(I)I"⟩ prog_15_method_16_code 2 (some .int)) { frames := 1, cells := 0, slots := 0, locals := 15 } D q_cl [.ref h0, .int k] [(h0, .inr (13, [.ref m_input, .int 0, .int 0, .int 0, .int (-1), .ref m_tree, .ref m_other, .ref m_now, .ref m_spare, .ref m_circuit, .ref m_old])), (m_circuit, .inr (17, mf)), (r_active, .inr (18, rf_active)), (r_inactive, .inr (18, rf_inactive)), (r_later, .inr (18, rf_later)), (r_future, .inr (18, rf_future))] [] (fun r w ty => ∃ (fs : List Value) (z : Int32), r = .inl (some (.int z)) ∧ w = [(h0, .inr (13, fs))] ∧ ty = [] ∧ q_ag (.inl (some (.int (o_count k)))) (1) fs[2]? (some (.int z))) := by
  refine q_ofW (by decide) ?_
  intro p e s m below meth c C hr hin hex I
  have hx := C.1
  have hb := C.2.1
  have hl := lv_entry ([.ref h0, .int k]) (n := 2) (Nat.le_of_ble_eq_true rfl)
  rw [lg_entry_eq]
  generalize (lg_sl ([.ref h0, .int k]) ++ List.replicate (2 - (lg_sl ([.ref h0, .int k])).length) Slot.unset).toArray = ls at hl ⊢
  have hl : lv_has ls 2 [(0, .ref h0), (1, .int k)] := hl
  refine lv_aload_n hx hb d25_Mod_count_0 rfl (lv_at hl 0 rfl) ?_
  refine lv_iconst (v := 0) hx hb d25_Mod_count_1 (by decide) ?_
  refine q_put t_Mod t_Mod_ok n_Mod C I 0 2 rfl rfl i_Mod (by decide) m25_0 rfl rfl rfl (Nat.le_of_ble_eq_true rfl) d25_Mod_count_2 (fun H locs I => ?_)
  have I : q_I D q_cl _ s [(h0, .inr (13, [.ref m_input, .int 0, .int 0, .int 0, .int (-1), .ref m_tree, .ref m_other, .ref m_now, .ref m_spare, .ref m_circuit, .ref m_old])), (m_circuit, .inr (17, mf)), (r_active, .inr (18, rf_active)), (r_inactive, .inr (18, rf_inactive)), (r_later, .inr (18, rf_later)), (r_future, .inr (18, rf_future))] [] H _ := I
  refine lv_iload_n hx hb d25_Mod_count_5 rfl (lv_at hl 1 rfl) ?_
  by_cases c6 : k.toInt < 0 ∨ 11 < k.toInt
  · skip
    refine lv_tableOut hx hb d25_Mod_count_6 c6 (by decide) (tgt := 175) ?_
    refine lv_iconst (v := -1) hx hb d25_Mod_count_175 (by decide) ?_
    have I : q_I D q_cl _ s [(h0, .inr (13, [.ref m_input, .int 0, .int 0, .int 0, .int (-1), .ref m_tree, .ref m_other, .ref m_now, .ref m_spare, .ref m_circuit, .ref m_old]))] [] _ _ := q_pick I [0] [] rfl (by decide) rfl
    exact q_iret C hr I ⟨_, _, rfl, rfl, rfl, rfl, by rw [q_cnt c6]⟩ (Nat.le_of_ble_eq_true rfl) (Nat.le_of_ble_eq_true rfl) d25_Mod_count_176
  · skip
    have c6 := q_upto11 (fun h => c6 (Or.inl h)) (fun h => c6 (Or.inr h))
    rcases c6 with rfl | rfl | rfl | rfl | rfl | rfl | rfl | rfl | rfl | rfl | rfl | rfl
    · skip
      refine lv_tableIn (x := 0) hx hb d25_Mod_count_6 (by decide) (by decide) rfl (by decide) (tgt := 68) ?_
      refine lv_aload_n hx hb d25_Mod_count_68 rfl (lv_at hl 0 rfl) ?_
      refine q_get C I 0 1 rfl rfl i_Mod (by decide) m25_3 rfl d25_Mod_count_69 ?_
      have I : q_I D q_cl _ s [(h0, .inr (13, [.ref m_input, .int 0, .int 0, .int 0, .int (-1), .ref m_tree, .ref m_other, .ref m_now, .ref m_spare, .ref m_circuit, .ref m_old]))] [] _ _ := q_pick I [0] [] rfl (by decide) rfl
      exact q_iret C hr I ⟨_, _, rfl, rfl, rfl, rfl, congrArg (fun z => some (Value.int z)) (by decide : (0 : Int32) = o_count 0)⟩ (Nat.le_of_ble_eq_true rfl) (Nat.le_of_ble_eq_true rfl) d25_Mod_count_72
    · skip
      refine lv_tableIn (x := 1) hx hb d25_Mod_count_6 (by decide) (by decide) rfl (by decide) (tgt := 73) ?_
      refine lv_aload_n hx hb d25_Mod_count_73 rfl (lv_at hl 0 rfl) ?_
      refine q_get C I 0 9 rfl rfl i_Mod (by decide) m25_1 rfl d25_Mod_count_74 ?_
      refine q_get C I 1 24 rfl rfl i_Mci (by decide) m25_2 hm_vars d25_Mod_count_77 ?_
      have I : q_I D q_cl _ s [(h0, .inr (13, [.ref m_input, .int 0, .int 0, .int 0, .int (-1), .ref m_tree, .ref m_other, .ref m_now, .ref m_spare, .ref m_circuit, .ref m_old]))] [] _ _ := q_pick I [0] [] rfl (by decide) rfl
      exact q_iret C hr I ⟨_, _, rfl, rfl, rfl, rfl, congrArg (fun z => some (Value.int z)) (by decide : (0 : Int32) = o_count 1)⟩ (Nat.le_of_ble_eq_true rfl) (Nat.le_of_ble_eq_true rfl) d25_Mod_count_80
    · skip
      refine lv_tableIn (x := 2) hx hb d25_Mod_count_6 (by decide) (by decide) rfl (by decide) (tgt := 81) ?_
      refine lv_aload_n hx hb d25_Mod_count_81 rfl (lv_at hl 0 rfl) ?_
      refine q_get C I 0 9 rfl rfl i_Mod (by decide) m25_1 rfl d25_Mod_count_82 ?_
      refine q_get C I 1 36 rfl rfl i_Mci (by decide) m25_16 hm_drives d25_Mod_count_85 ?_
      have I : q_I D q_cl _ s [(h0, .inr (13, [.ref m_input, .int 0, .int 0, .int 0, .int (-1), .ref m_tree, .ref m_other, .ref m_now, .ref m_spare, .ref m_circuit, .ref m_old]))] [] _ _ := q_pick I [0] [] rfl (by decide) rfl
      exact q_iret C hr I ⟨_, _, rfl, rfl, rfl, rfl, congrArg (fun z => some (Value.int z)) (by decide : (0 : Int32) = o_count 2)⟩ (Nat.le_of_ble_eq_true rfl) (Nat.le_of_ble_eq_true rfl) d25_Mod_count_88
    · skip
      refine lv_tableIn (x := 3) hx hb d25_Mod_count_6 (by decide) (by decide) rfl (by decide) (tgt := 89) ?_
      refine lv_aload_n hx hb d25_Mod_count_89 rfl (lv_at hl 0 rfl) ?_
      refine q_get C I 0 9 rfl rfl i_Mod (by decide) m25_1 rfl d25_Mod_count_90 ?_
      refine q_get C I 1 37 rfl rfl i_Mci (by decide) m25_17 hm_processes d25_Mod_count_93 ?_
      have I : q_I D q_cl _ s [(h0, .inr (13, [.ref m_input, .int 0, .int 0, .int 0, .int (-1), .ref m_tree, .ref m_other, .ref m_now, .ref m_spare, .ref m_circuit, .ref m_old]))] [] _ _ := q_pick I [0] [] rfl (by decide) rfl
      exact q_iret C hr I ⟨_, _, rfl, rfl, rfl, rfl, congrArg (fun z => some (Value.int z)) (by decide : (0 : Int32) = o_count 3)⟩ (Nat.le_of_ble_eq_true rfl) (Nat.le_of_ble_eq_true rfl) d25_Mod_count_96
    · skip
      refine lv_tableIn (x := 4) hx hb d25_Mod_count_6 (by decide) (by decide) rfl (by decide) (tgt := 97) ?_
      refine lv_aload_n hx hb d25_Mod_count_97 rfl (lv_at hl 0 rfl) ?_
      refine q_get C I 0 9 rfl rfl i_Mod (by decide) m25_1 rfl d25_Mod_count_98 ?_
      refine q_get C I 1 74 rfl rfl i_Mci (by decide) m25_12 hm_logged d25_Mod_count_101 ?_
      have I : q_I D q_cl _ s [(h0, .inr (13, [.ref m_input, .int 0, .int 0, .int 0, .int (-1), .ref m_tree, .ref m_other, .ref m_now, .ref m_spare, .ref m_circuit, .ref m_old]))] [] _ _ := q_pick I [0] [] rfl (by decide) rfl
      exact q_iret C hr I ⟨_, _, rfl, rfl, rfl, rfl, congrArg (fun z => some (Value.int z)) (by decide : (0 : Int32) = o_count 4)⟩ (Nat.le_of_ble_eq_true rfl) (Nat.le_of_ble_eq_true rfl) d25_Mod_count_104
    · skip
      refine lv_tableIn (x := 5) hx hb d25_Mod_count_6 (by decide) (by decide) rfl (by decide) (tgt := 105) ?_
      refine lv_aload_n hx hb d25_Mod_count_105 rfl (lv_at hl 0 rfl) ?_
      refine q_get C I 0 9 rfl rfl i_Mod (by decide) m25_1 rfl d25_Mod_count_106 ?_
      refine q_go (wr := [(h0, .inr (13, [.ref m_input, .int 0, .int 0, .int 0, .int (-1), .ref m_tree, .ref m_other, .ref m_now, .ref m_spare, .ref m_circuit, .ref m_old])), (r_active, .inr (18, rf_active)), (r_inactive, .inr (18, rf_inactive)), (r_later, .inr (18, rf_later)), (r_future, .inr (18, rf_future))]) (tyr := []) C I (q_siteV (As := []) (rest := []) (q0 := 1) C I rfl rfl m25_18 m25_20 m25_21 m25_19 ⟨by decide, by decide⟩ (Eq.trans (b := some 0) (by decide +kernel) rfl) rfl d25_Mod_count_109) (c_Mci_cost l D m_circuit mf hm_cost) m25_19 m25_22 [1] [0, 2, 3, 4, 5] [] [] rfl rfl (by decide) (by decide) (by decide) rfl rfl hl.1 d25_Mod_count_109 (Nat.le_of_ble_eq_true rfl) (Nat.le_of_ble_eq_true rfl) (Nat.le_of_ble_eq_true rfl) (Nat.le_of_ble_eq_true rfl) (fun v w ty H locs hp I => ?_) (fun E w ty H locs q ce hp _ _ _ _ => ?_)
      rotate_left
      · obtain ⟨hv, -⟩ := hp; cases hv
      obtain ⟨hv, rfl, rfl⟩ := hp
      cases hv
      have I : q_I D q_cl _ s [(h0, .inr (13, [.ref m_input, .int 0, .int 0, .int 0, .int (-1), .ref m_tree, .ref m_other, .ref m_now, .ref m_spare, .ref m_circuit, .ref m_old])), (r_active, .inr (18, rf_active)), (r_inactive, .inr (18, rf_inactive)), (r_later, .inr (18, rf_later)), (r_future, .inr (18, rf_future)), (m_circuit, .inr (17, mf))] [] H _ := I
      refine W.eq (g2 := F0 m 112 ls [.int 0]) rfl ?_
      have I : q_I D q_cl _ s [(h0, .inr (13, [.ref m_input, .int 0, .int 0, .int 0, .int (-1), .ref m_tree, .ref m_other, .ref m_now, .ref m_spare, .ref m_circuit, .ref m_old]))] [] _ _ := q_pick I [0] [] rfl (by decide) rfl
      exact q_iret C hr I ⟨_, _, rfl, rfl, rfl, rfl, congrArg (fun z => some (Value.int z)) (by decide : (0 : Int32) = o_count 5)⟩ (Nat.le_of_ble_eq_true rfl) (Nat.le_of_ble_eq_true rfl) d25_Mod_count_112
    · skip
      refine lv_tableIn (x := 6) hx hb d25_Mod_count_6 (by decide) (by decide) rfl (by decide) (tgt := 113) ?_
      refine lv_aload_n hx hb d25_Mod_count_113 rfl (lv_at hl 0 rfl) ?_
      refine q_get C I 0 9 rfl rfl i_Mod (by decide) m25_1 rfl d25_Mod_count_114 ?_
      refine q_get C I 1 56 rfl rfl i_Mci (by decide) m25_23 hm_active d25_Mod_count_117 ?_
      refine q_get C I 2 8 rfl rfl i_Row (by decide) m25_24 hr_active d25_Mod_count_120 ?_
      have I : q_I D q_cl _ s [(h0, .inr (13, [.ref m_input, .int 0, .int 0, .int 0, .int (-1), .ref m_tree, .ref m_other, .ref m_now, .ref m_spare, .ref m_circuit, .ref m_old]))] [] _ _ := q_pick I [0] [] rfl (by decide) rfl
      exact q_iret C hr I ⟨_, _, rfl, rfl, rfl, rfl, congrArg (fun z => some (Value.int z)) (by decide : (0 : Int32) = o_count 6)⟩ (Nat.le_of_ble_eq_true rfl) (Nat.le_of_ble_eq_true rfl) d25_Mod_count_123
    · skip
      refine lv_tableIn (x := 7) hx hb d25_Mod_count_6 (by decide) (by decide) rfl (by decide) (tgt := 124) ?_
      refine lv_aload_n hx hb d25_Mod_count_124 rfl (lv_at hl 0 rfl) ?_
      refine q_get C I 0 9 rfl rfl i_Mod (by decide) m25_1 rfl d25_Mod_count_125 ?_
      refine q_get C I 1 57 rfl rfl i_Mci (by decide) m25_25 hm_inactive d25_Mod_count_128 ?_
      refine q_get C I 3 8 rfl rfl i_Row (by decide) m25_24 hr_inactive d25_Mod_count_131 ?_
      have I : q_I D q_cl _ s [(h0, .inr (13, [.ref m_input, .int 0, .int 0, .int 0, .int (-1), .ref m_tree, .ref m_other, .ref m_now, .ref m_spare, .ref m_circuit, .ref m_old]))] [] _ _ := q_pick I [0] [] rfl (by decide) rfl
      exact q_iret C hr I ⟨_, _, rfl, rfl, rfl, rfl, congrArg (fun z => some (Value.int z)) (by decide : (0 : Int32) = o_count 7)⟩ (Nat.le_of_ble_eq_true rfl) (Nat.le_of_ble_eq_true rfl) d25_Mod_count_134
    · skip
      refine lv_tableIn (x := 8) hx hb d25_Mod_count_6 (by decide) (by decide) rfl (by decide) (tgt := 135) ?_
      refine lv_aload_n hx hb d25_Mod_count_135 rfl (lv_at hl 0 rfl) ?_
      refine q_get C I 0 9 rfl rfl i_Mod (by decide) m25_1 rfl d25_Mod_count_136 ?_
      refine q_get C I 1 58 rfl rfl i_Mci (by decide) m25_26 hm_later d25_Mod_count_139 ?_
      refine q_get C I 4 8 rfl rfl i_Row (by decide) m25_24 hr_later d25_Mod_count_142 ?_
      have I : q_I D q_cl _ s [(h0, .inr (13, [.ref m_input, .int 0, .int 0, .int 0, .int (-1), .ref m_tree, .ref m_other, .ref m_now, .ref m_spare, .ref m_circuit, .ref m_old]))] [] _ _ := q_pick I [0] [] rfl (by decide) rfl
      exact q_iret C hr I ⟨_, _, rfl, rfl, rfl, rfl, congrArg (fun z => some (Value.int z)) (by decide : (0 : Int32) = o_count 8)⟩ (Nat.le_of_ble_eq_true rfl) (Nat.le_of_ble_eq_true rfl) d25_Mod_count_145
    · skip
      refine lv_tableIn (x := 9) hx hb d25_Mod_count_6 (by decide) (by decide) rfl (by decide) (tgt := 146) ?_
      refine lv_aload_n hx hb d25_Mod_count_146 rfl (lv_at hl 0 rfl) ?_
      refine q_get C I 0 9 rfl rfl i_Mod (by decide) m25_1 rfl d25_Mod_count_147 ?_
      refine q_get C I 1 59 rfl rfl i_Mci (by decide) m25_27 hm_future d25_Mod_count_150 ?_
      refine q_get C I 5 8 rfl rfl i_Row (by decide) m25_24 hr_future d25_Mod_count_153 ?_
      have I : q_I D q_cl _ s [(h0, .inr (13, [.ref m_input, .int 0, .int 0, .int 0, .int (-1), .ref m_tree, .ref m_other, .ref m_now, .ref m_spare, .ref m_circuit, .ref m_old]))] [] _ _ := q_pick I [0] [] rfl (by decide) rfl
      exact q_iret C hr I ⟨_, _, rfl, rfl, rfl, rfl, congrArg (fun z => some (Value.int z)) (by decide : (0 : Int32) = o_count 9)⟩ (Nat.le_of_ble_eq_true rfl) (Nat.le_of_ble_eq_true rfl) d25_Mod_count_156
    · skip
      refine lv_tableIn (x := 10) hx hb d25_Mod_count_6 (by decide) (by decide) rfl (by decide) (tgt := 157) ?_
      refine lv_aload_n hx hb d25_Mod_count_157 rfl (lv_at hl 0 rfl) ?_
      refine q_get C I 0 9 rfl rfl i_Mod (by decide) m25_1 rfl d25_Mod_count_158 ?_
      refine lv_iconst (v := 1) hx hb d25_Mod_count_161 (by decide) ?_
      refine q_go (wr := [(h0, .inr (13, [.ref m_input, .int 0, .int 0, .int 0, .int (-1), .ref m_tree, .ref m_other, .ref m_now, .ref m_spare, .ref m_circuit, .ref m_old])), (r_active, .inr (18, rf_active)), (r_inactive, .inr (18, rf_inactive)), (r_later, .inr (18, rf_later)), (r_future, .inr (18, rf_future))]) (tyr := []) C I (q_siteV (As := [.int 1]) (rest := []) (q0 := 1) C I rfl rfl m25_28 m25_30 m25_31 m25_29 ⟨by decide, by decide⟩ (Eq.trans (b := some 1) (by decide +kernel) rfl) rfl d25_Mod_count_162) (c_Mci_processesIn l D m_circuit mf hm_processes (1)) m25_29 m25_22 [1] [0, 2, 3, 4, 5] [] [] rfl rfl (by decide) (by decide) (by decide) rfl rfl hl.1 d25_Mod_count_162 (Nat.le_of_ble_eq_true rfl) (Nat.le_of_ble_eq_true rfl) (Nat.le_of_ble_eq_true rfl) (Nat.le_of_ble_eq_true rfl) (fun v w ty H locs hp I => ?_) (fun E w ty H locs q ce hp _ _ _ _ => ?_)
      rotate_left
      · obtain ⟨hv, -⟩ := hp; cases hv
      obtain ⟨hv, rfl, rfl⟩ := hp
      cases hv
      have I : q_I D q_cl _ s [(h0, .inr (13, [.ref m_input, .int 0, .int 0, .int 0, .int (-1), .ref m_tree, .ref m_other, .ref m_now, .ref m_spare, .ref m_circuit, .ref m_old])), (r_active, .inr (18, rf_active)), (r_inactive, .inr (18, rf_inactive)), (r_later, .inr (18, rf_later)), (r_future, .inr (18, rf_future)), (m_circuit, .inr (17, mf))] [] H _ := I
      refine W.eq (g2 := F0 m 165 ls [.int 0]) rfl ?_
      have I : q_I D q_cl _ s [(h0, .inr (13, [.ref m_input, .int 0, .int 0, .int 0, .int (-1), .ref m_tree, .ref m_other, .ref m_now, .ref m_spare, .ref m_circuit, .ref m_old]))] [] _ _ := q_pick I [0] [] rfl (by decide) rfl
      exact q_iret C hr I ⟨_, _, rfl, rfl, rfl, rfl, congrArg (fun z => some (Value.int z)) (by decide : (0 : Int32) = o_count 10)⟩ (Nat.le_of_ble_eq_true rfl) (Nat.le_of_ble_eq_true rfl) d25_Mod_count_165
    · skip
      refine lv_tableIn (x := 11) hx hb d25_Mod_count_6 (by decide) (by decide) rfl (by decide) (tgt := 166) ?_
      refine lv_aload_n hx hb d25_Mod_count_166 rfl (lv_at hl 0 rfl) ?_
      refine q_get C I 0 9 rfl rfl i_Mod (by decide) m25_1 rfl d25_Mod_count_167 ?_
      refine lv_iconst (v := 2) hx hb d25_Mod_count_170 (by decide) ?_
      refine q_go (wr := [(h0, .inr (13, [.ref m_input, .int 0, .int 0, .int 0, .int (-1), .ref m_tree, .ref m_other, .ref m_now, .ref m_spare, .ref m_circuit, .ref m_old])), (r_active, .inr (18, rf_active)), (r_inactive, .inr (18, rf_inactive)), (r_later, .inr (18, rf_later)), (r_future, .inr (18, rf_future))]) (tyr := []) C I (q_siteV (As := [.int 2]) (rest := []) (q0 := 1) C I rfl rfl m25_28 m25_30 m25_31 m25_29 ⟨by decide, by decide⟩ (Eq.trans (b := some 1) (by decide +kernel) rfl) rfl d25_Mod_count_171) (c_Mci_processesIn l D m_circuit mf hm_processes (2)) m25_29 m25_22 [1] [0, 2, 3, 4, 5] [] [] rfl rfl (by decide) (by decide) (by decide) rfl rfl hl.1 d25_Mod_count_171 (Nat.le_of_ble_eq_true rfl) (Nat.le_of_ble_eq_true rfl) (Nat.le_of_ble_eq_true rfl) (Nat.le_of_ble_eq_true rfl) (fun v w ty H locs hp I => ?_) (fun E w ty H locs q ce hp _ _ _ _ => ?_)
      rotate_left
      · obtain ⟨hv, -⟩ := hp; cases hv
      obtain ⟨hv, rfl, rfl⟩ := hp
      cases hv
      have I : q_I D q_cl _ s [(h0, .inr (13, [.ref m_input, .int 0, .int 0, .int 0, .int (-1), .ref m_tree, .ref m_other, .ref m_now, .ref m_spare, .ref m_circuit, .ref m_old])), (r_active, .inr (18, rf_active)), (r_inactive, .inr (18, rf_inactive)), (r_later, .inr (18, rf_later)), (r_future, .inr (18, rf_future)), (m_circuit, .inr (17, mf))] [] H _ := I
      refine W.eq (g2 := F0 m 174 ls [.int 0]) rfl ?_
      have I : q_I D q_cl _ s [(h0, .inr (13, [.ref m_input, .int 0, .int 0, .int 0, .int (-1), .ref m_tree, .ref m_other, .ref m_now, .ref m_spare, .ref m_circuit, .ref m_old]))] [] _ _ := q_pick I [0] [] rfl (by decide) rfl
      exact q_iret C hr I ⟨_, _, rfl, rfl, rfl, rfl, congrArg (fun z => some (Value.int z)) (by decide : (0 : Int32) = o_count 11)⟩ (Nat.le_of_ble_eq_true rfl) (Nat.le_of_ble_eq_true rfl) d25_Mod_count_174
