set_option maxRecDepth 20000 in
theorem m23_0 : (Cond.fieldLink "SignalTheatre$Code" 60 "SignalTheatre$Code" "nodes" "I" : Cond) ∈ q_big := q_m2 (List.mem_of_getElem? (i := 104) rfl) rfl
set_option maxRecDepth 20000 in
theorem m23_1 : (Cond.fieldLink "SignalTheatre$Code" 64 "SignalTheatre$Code" "constants" "I" : Cond) ∈ q_big := q_m2 (List.mem_of_getElem? (i := 110) rfl) rfl
set_option maxRecDepth 20000 in
theorem m23_2 : (Cond.fieldLink "SignalTheatre$Code" 67 "SignalTheatre$Code" "lefts" "I" : Cond) ∈ q_big := q_m2 (List.mem_of_getElem? (i := 129) rfl) rfl
set_option maxRecDepth 20000 in
theorem m23_3 : (Cond.fieldLink "SignalTheatre$Code" 70 "SignalTheatre$Code" "lines" "I" : Cond) ∈ q_big := q_m2 (List.mem_of_getElem? (i := 136) rfl) rfl
set_option maxRecDepth 20000 in
theorem m23_4 : (Cond.fieldLink "SignalTheatre$Code" 73 "SignalTheatre$Code" "counters" "I" : Cond) ∈ q_big := q_m2 (List.mem_of_getElem? (i := 138) rfl) rfl
set_option maxRecDepth 20000 in
theorem m23_5 : (Cond.fieldLink "SignalTheatre$Circuit" 10 "SignalTheatre$Circuit" "text" "[B" : Cond) ∈ q_big := q_m3 (List.mem_of_getElem? (i := 20) rfl) rfl
set_option maxRecDepth 20000 in
theorem m23_6 : (Cond.methodLink "SignalTheatre$Circuit" 65 ⟨"java/lang/System", "arraycopy", "(Ljava/lang/Object;ILjava/lang/Object;II)V"⟩ : Cond) ∈ q_big := q_m5 (List.mem_of_getElem? (i := 2) rfl) rfl
set_option maxRecDepth 20000 in
theorem m23_7 : (Cond.native ⟨"java/lang/System", "arraycopy", "(Ljava/lang/Object;ILjava/lang/Object;II)V"⟩ : Cond) ∈ q_big := q_m5 (List.mem_of_getElem? (i := 4) rfl) rfl
set_option maxRecDepth 20000 in
theorem m23_8 : (Cond.static ⟨"java/lang/System", "arraycopy", "(Ljava/lang/Object;ILjava/lang/Object;II)V"⟩ : Cond) ∈ q_big := q_m5 (List.mem_of_getElem? (i := 3) rfl) rfl
set_option maxRecDepth 20000 in
theorem m23_9 : (Cond.initialized "java/lang/System" : Cond) ∈ q_big := q_m1 (List.mem_of_getElem? (i := 25) rfl) rfl
set_option maxRecDepth 20000 in
theorem m23_10 : (Cond.fieldLink "SignalTheatre$Circuit" 19 "SignalTheatre$Circuit" "code" "LSignalTheatre$Code;" : Cond) ∈ q_big := q_m3 (List.mem_of_getElem? (i := 23) rfl) rfl
set_option maxRecDepth 20000 in
theorem m23_11 : (Cond.methodLink "SignalTheatre$Circuit" 71 ⟨"SignalTheatre$Code", "clear", "()V"⟩ : Cond) ∈ q_big := q_m5 (List.mem_of_getElem? (i := 5) rfl) rfl
set_option maxRecDepth 20000 in
theorem m23_12 : (Cond.code ⟨"SignalTheatre$Code", "clear", "()V"⟩ prog_6_method_2_code 1 none : Cond) ∈ q_big := q_m5 (List.mem_of_getElem? (i := 8) rfl) rfl
set_option maxRecDepth 20000 in
theorem m23_13 : (Cond.instanceMethod ⟨"SignalTheatre$Code", "clear", "()V"⟩ : Cond) ∈ q_big := q_m5 (List.mem_of_getElem? (i := 6) rfl) rfl
set_option maxRecDepth 20000 in
theorem m23_14 : (Cond.selects "SignalTheatre$Code" ⟨"SignalTheatre$Code", "clear", "()V"⟩ ⟨"SignalTheatre$Code", "clear", "()V"⟩ : Cond) ∈ q_big := q_m5 (List.mem_of_getElem? (i := 7) rfl) rfl
set_option maxRecDepth 20000 in
theorem m23_15 : (Cond.initialized "SignalTheatre$Code" : Cond) ∈ q_big := q_m1 (List.mem_of_getElem? (i := 8) rfl) rfl
set_option maxRecDepth 20000 in
theorem m23_16 : (Cond.fieldLink "SignalTheatre$Circuit" 74 "SignalTheatre$Circuit" "signalCount" "I" : Cond) ∈ q_big := q_m3 (List.mem_of_getElem? (i := 34) rfl) rfl
set_option maxRecDepth 20000 in
theorem m23_17 : (Cond.fieldLink "SignalTheatre$Circuit" 78 "SignalTheatre$Circuit" "cells" "I" : Cond) ∈ q_big := q_m3 (List.mem_of_getElem? (i := 46) rfl) rfl
set_option maxRecDepth 20000 in
theorem m23_18 : (Cond.fieldLink "SignalTheatre$Circuit" 81 "SignalTheatre$Circuit" "words" "I" : Cond) ∈ q_big := q_m3 (List.mem_of_getElem? (i := 47) rfl) rfl
set_option maxRecDepth 20000 in
theorem m23_19 : (Cond.fieldLink "SignalTheatre$Circuit" 84 "SignalTheatre$Circuit" "scopes" "I" : Cond) ∈ q_big := q_m3 (List.mem_of_getElem? (i := 52) rfl) rfl
set_option maxRecDepth 20000 in
theorem m23_20 : (Cond.fieldLink "SignalTheatre$Circuit" 87 "SignalTheatre$Circuit" "assigns" "I" : Cond) ∈ q_big := q_m3 (List.mem_of_getElem? (i := 59) rfl) rfl
set_option maxRecDepth 20000 in
theorem m23_21 : (Cond.fieldLink "SignalTheatre$Circuit" 90 "SignalTheatre$Circuit" "processes" "I" : Cond) ∈ q_big := q_m3 (List.mem_of_getElem? (i := 65) rfl) rfl
set_option maxRecDepth 20000 in
theorem m23_22 : (Cond.fieldLink "SignalTheatre$Faults" 29 "SignalTheatre$Faults" "foundNumber" "I" : Cond) ∈ q_big := q_m1 (List.mem_of_getElem? (i := 149) rfl) rfl
set_option maxRecDepth 20000 in
theorem m23_23 : (Cond.fieldLink "SignalTheatre$Faults" 21 "SignalTheatre$Faults" "hard" "Z" : Cond) ∈ q_big := q_m1 (List.mem_of_getElem? (i := 151) rfl) rfl
set_option maxRecDepth 20000 in
theorem m23_24 : (Cond.fieldLink "SignalTheatre$Faults" 17 "SignalTheatre$Faults" "on" "Z" : Cond) ∈ q_big := q_m1 (List.mem_of_getElem? (i := 153) rfl) rfl
set_option maxRecDepth 20000 in
theorem m23_25 : (Cond.fieldLink "SignalTheatre$Tokens" 51 "SignalTheatre$Tokens" "length" "I" : Cond) ∈ q_big := q_m1 (List.mem_of_getElem? (i := 58) rfl) rfl
set_option maxRecDepth 20000 in
theorem m23_26 : (Cond.fieldLink "SignalTheatre$Tokens" 55 "SignalTheatre$Tokens" "size" "I" : Cond) ∈ q_big := q_m1 (List.mem_of_getElem? (i := 71) rfl) rfl
set_option maxRecDepth 20000 in
theorem m23_27 : (Cond.constant "SignalTheatre$Tokens" 74 (32768) : Cond) ∈ q_big := q_m5 (List.mem_of_getElem? (i := 40) rfl) rfl
set_option maxRecDepth 20000 in
theorem m23_28 : (Cond.fieldLink "SignalTheatre$Tokens" 10 "SignalTheatre$Tokens" "kind" "[I" : Cond) ∈ q_big := q_m1 (List.mem_of_getElem? (i := 59) rfl) rfl
set_option maxRecDepth 20000 in
theorem m23_29 : (Cond.fieldLink "SignalTheatre$Tokens" 16 "SignalTheatre$Tokens" "place" "[I" : Cond) ∈ q_big := q_m1 (List.mem_of_getElem? (i := 62) rfl) rfl
set_option maxRecDepth 20000 in
theorem m23_30 : (Cond.fieldLink "SignalTheatre$Tokens" 19 "SignalTheatre$Tokens" "info" "[I" : Cond) ∈ q_big := q_m1 (List.mem_of_getElem? (i := 67) rfl) rfl
set_option maxRecDepth 20000 in
theorem m23_31 : (Cond.fieldLink "SignalTheatre$Tokens" 47 "SignalTheatre$Tokens" "text" "[B" : Cond) ∈ q_big := q_m1 (List.mem_of_getElem? (i := 57) rfl) rfl
set_option maxRecDepth 20000 in
theorem m23_32 : (Cond.fieldLink "SignalTheatre$Tokens" 58 "SignalTheatre$Tokens" "names" "I" : Cond) ∈ q_big := q_m1 (List.mem_of_getElem? (i := 80) rfl) rfl
set_option maxRecDepth 20000 in
theorem m23_33 : (Cond.fieldLink "SignalTheatre$Tokens" 61 "SignalTheatre$Tokens" "numbers" "I" : Cond) ∈ q_big := q_m1 (List.mem_of_getElem? (i := 89) rfl) rfl
set_option maxRecDepth 20000 in
theorem m23_34 : (Cond.fieldLink "SignalTheatre$Tokens" 22 "SignalTheatre$Tokens" "nameHead" "[I" : Cond) ∈ q_big := q_m1 (List.mem_of_getElem? (i := 73) rfl) rfl
set_option maxRecDepth 20000 in
theorem m23_35 : (Cond.methodLink "SignalTheatre$Tokens" 64 ⟨"java/util/Arrays", "fill", "([II)V"⟩ : Cond) ∈ q_big := q_m5 (List.mem_of_getElem? (i := 21) rfl) rfl
set_option maxRecDepth 20000 in
theorem m23_36 : (Cond.code ⟨"java/util/Arrays", "fill", "([II)V"⟩ prog_39_method_103_code 4 none : Cond) ∈ q_big := q_m5 (List.mem_of_getElem? (i := 23) rfl) rfl
set_option maxRecDepth 20000 in
theorem m23_37 : (Cond.static ⟨"java/util/Arrays", "fill", "([II)V"⟩ : Cond) ∈ q_big := q_m5 (List.mem_of_getElem? (i := 22) rfl) rfl
set_option maxRecDepth 20000 in
theorem m23_38 : (Cond.initialized "java/util/Arrays" : Cond) ∈ q_big := q_m1 (List.mem_of_getElem? (i := 26) rfl) rfl
set_option maxRecDepth 20000 in
theorem m23_39 : (Cond.methodLink "SignalTheatre$Tokens" 70 ⟨"SignalTheatre$Tokens", "skipped", "(I)I"⟩ : Cond) ∈ q_big := q_m5 (List.mem_of_getElem? (i := 24) rfl) rfl
set_option maxRecDepth 20000 in
theorem m23_40 : (Cond.code ⟨"SignalTheatre$Tokens", "skipped", "(I)I"⟩ prog_12_method_5_code 4 (Option.some FieldType.int) : Cond) ∈ q_big := q_m5 (List.mem_of_getElem? (i := 27) rfl) rfl
set_option maxRecDepth 20000 in
theorem m23_41 : (Cond.instanceMethod ⟨"SignalTheatre$Tokens", "skipped", "(I)I"⟩ : Cond) ∈ q_big := q_m5 (List.mem_of_getElem? (i := 26) rfl) rfl
set_option maxRecDepth 20000 in
theorem m23_42 : (Cond.selects "SignalTheatre$Tokens" ⟨"SignalTheatre$Tokens", "skipped", "(I)I"⟩ ⟨"SignalTheatre$Tokens", "skipped", "(I)I"⟩ : Cond) ∈ q_big := q_sel (q := (⟨"SignalTheatre$Tokens", "skipped", "(I)I"⟩, 20)) (List.mem_of_getElem? (i := 3) rfl)
set_option maxRecDepth 20000 in
theorem m23_43 : (Cond.initialized "SignalTheatre$Tokens" : Cond) ∈ q_big := q_m1 (List.mem_of_getElem? (i := 2) rfl) rfl
set_option maxRecDepth 20000 in
theorem m23_44 : (Cond.methodLink "SignalTheatre$Tokens" 78 ⟨"SignalTheatre$Tokens", "add", "(III)V"⟩ : Cond) ∈ q_big := q_m5 (List.mem_of_getElem? (i := 124) rfl) rfl
set_option maxRecDepth 20000 in
theorem m23_45 : (Cond.code ⟨"SignalTheatre$Tokens", "add", "(III)V"⟩ prog_12_method_3_code 4 none : Cond) ∈ q_big := q_m5 (List.mem_of_getElem? (i := 127) rfl) rfl
set_option maxRecDepth 20000 in
theorem m23_46 : (Cond.instanceMethod ⟨"SignalTheatre$Tokens", "add", "(III)V"⟩ : Cond) ∈ q_big := q_m5 (List.mem_of_getElem? (i := 126) rfl) rfl
set_option maxRecDepth 20000 in
theorem m23_47 : (Cond.selects "SignalTheatre$Tokens" ⟨"SignalTheatre$Tokens", "add", "(III)V"⟩ ⟨"SignalTheatre$Tokens", "add", "(III)V"⟩ : Cond) ∈ q_big := q_sel (q := (⟨"SignalTheatre$Tokens", "add", "(III)V"⟩, 20)) (List.mem_of_getElem? (i := 4) rfl)
set_option maxRecDepth 20000 in
theorem m23_48 : (Cond.fieldLink "SignalTheatre$Maker" 44 "SignalTheatre$Maker" "circuit" "LSignalTheatre$Circuit;" : Cond) ∈ q_big := q_m1 (List.mem_of_getElem? (i := 211) rfl) rfl
set_option maxRecDepth 20000 in
theorem m23_49 : (Cond.fieldLink "SignalTheatre$Maker" 48 "SignalTheatre$Circuit" "code" "LSignalTheatre$Code;" : Cond) ∈ q_big := q_m3 (List.mem_of_getElem? (i := 24) rfl) rfl
set_option maxRecDepth 20000 in
theorem m23_50 : (Cond.fieldLink "SignalTheatre$Maker" 54 "SignalTheatre$Maker" "code" "LSignalTheatre$Code;" : Cond) ∈ q_big := q_m1 (List.mem_of_getElem? (i := 212) rfl) rfl
set_option maxRecDepth 20000 in
theorem m23_51 : (Cond.fieldLink "SignalTheatre$Maker" 55 "SignalTheatre$Maker" "scope" "I" : Cond) ∈ q_big := q_m1 (List.mem_of_getElem? (i := 213) rfl) rfl
set_option maxRecDepth 20000 in
theorem m23_52 : (Cond.fieldLink "SignalTheatre$Maker" 59 "SignalTheatre$Maker" "symbols" "I" : Cond) ∈ q_big := q_m1 (List.mem_of_getElem? (i := 233) rfl) rfl
set_option maxRecDepth 20000 in
theorem m23_53 : (Cond.fieldLink "SignalTheatre$Maker" 11 "SignalTheatre$Maker" "head" "[I" : Cond) ∈ q_big := q_m1 (List.mem_of_getElem? (i := 227) rfl) rfl
set_option maxRecDepth 20000 in
theorem m23_54 : (Cond.fieldLink "SignalTheatre$Maker" 32 "SignalTheatre$Maker" "tokens" "LSignalTheatre$Tokens;" : Cond) ∈ q_big := q_m1 (List.mem_of_getElem? (i := 208) rfl) rfl
set_option maxRecDepth 20000 in
theorem m23_55 : (Cond.fieldLink "SignalTheatre$Maker" 62 "SignalTheatre$Tokens" "names" "I" : Cond) ∈ q_big := q_m1 (List.mem_of_getElem? (i := 81) rfl) rfl
set_option maxRecDepth 20000 in
theorem m23_56 : (Cond.methodLink "SignalTheatre$Maker" 65 ⟨"java/util/Arrays", "fill", "([IIII)V"⟩ : Cond) ∈ q_big := q_m7 (List.mem_of_getElem? (i := 5) rfl) rfl
set_option maxRecDepth 20000 in
theorem m23_57 : (Cond.code ⟨"java/util/Arrays", "fill", "([IIII)V"⟩ prog_39_method_104_code 5 none : Cond) ∈ q_big := q_m6 (List.mem_of_getElem? (i := 0) rfl) rfl
set_option maxRecDepth 20000 in
theorem m23_58 : (Cond.static ⟨"java/util/Arrays", "fill", "([IIII)V"⟩ : Cond) ∈ q_big := q_m5 (List.mem_of_getElem? (i := 239) rfl) rfl
set_option maxRecDepth 20000 in
theorem m23_59 : (Cond.fieldLink "SignalTheatre$Maker" 71 "SignalTheatre$Maker" "on" "Z" : Cond) ∈ q_big := q_m1 (List.mem_of_getElem? (i := 215) rfl) rfl
set_option maxRecDepth 20000 in
theorem m23_60 : (Cond.fieldLink "SignalTheatre$Maker" 36 "SignalTheatre$Maker" "faults" "LSignalTheatre$Faults;" : Cond) ∈ q_big := q_m1 (List.mem_of_getElem? (i := 209) rfl) rfl
set_option maxRecDepth 20000 in
theorem m23_61 : (Cond.fieldLink "SignalTheatre$Maker" 75 "SignalTheatre$Faults" "on" "Z" : Cond) ∈ q_big := q_m1 (List.mem_of_getElem? (i := 154) rfl) rfl
set_option maxRecDepth 20000 in
theorem m23_62 : (Cond.fieldLink "SignalTheatre$Reader" 27 "SignalTheatre$Reader" "at" "I" : Cond) ∈ q_big := q_m2 (List.mem_of_getElem? (i := 43) rfl) rfl
set_option maxRecDepth 20000 in
theorem m23_63 : (Cond.fieldLink "SignalTheatre$Reader" 31 "SignalTheatre$Reader" "depth" "I" : Cond) ∈ q_big := q_m2 (List.mem_of_getElem? (i := 45) rfl) rfl
set_option maxRecDepth 20000 in
theorem m23_64 : (Cond.fieldLink "SignalTheatre$Reader" 34 "SignalTheatre$Reader" "waitingCount" "I" : Cond) ∈ q_big := q_m2 (List.mem_of_getElem? (i := 42) rfl) rfl
theorem d23_Cod_clear_0 : decode prog_6_method_2_code 0 = .ok (.aload_n 0, 1) := by decide +kernel
theorem d23_Cod_clear_1 : decode prog_6_method_2_code 1 = .ok (.iconst 0, 1) := by decide +kernel
theorem d23_Cod_clear_2 : decode prog_6_method_2_code 2 = .ok (.putfield 60, 3) := by decide +kernel
theorem d23_Cod_clear_5 : decode prog_6_method_2_code 5 = .ok (.aload_n 0, 1) := by decide +kernel
theorem d23_Cod_clear_6 : decode prog_6_method_2_code 6 = .ok (.iconst 0, 1) := by decide +kernel
theorem d23_Cod_clear_7 : decode prog_6_method_2_code 7 = .ok (.putfield 64, 3) := by decide +kernel
theorem d23_Cod_clear_10 : decode prog_6_method_2_code 10 = .ok (.aload_n 0, 1) := by decide +kernel
theorem d23_Cod_clear_11 : decode prog_6_method_2_code 11 = .ok (.iconst 0, 1) := by decide +kernel
theorem d23_Cod_clear_12 : decode prog_6_method_2_code 12 = .ok (.putfield 67, 3) := by decide +kernel
theorem d23_Cod_clear_15 : decode prog_6_method_2_code 15 = .ok (.aload_n 0, 1) := by decide +kernel
theorem d23_Cod_clear_16 : decode prog_6_method_2_code 16 = .ok (.iconst 0, 1) := by decide +kernel
theorem d23_Cod_clear_17 : decode prog_6_method_2_code 17 = .ok (.putfield 70, 3) := by decide +kernel
theorem d23_Cod_clear_20 : decode prog_6_method_2_code 20 = .ok (.aload_n 0, 1) := by decide +kernel
theorem d23_Cod_clear_21 : decode prog_6_method_2_code 21 = .ok (.iconst 0, 1) := by decide +kernel
theorem d23_Cod_clear_22 : decode prog_6_method_2_code 22 = .ok (.putfield 73, 3) := by decide +kernel
theorem d23_Cod_clear_25 : decode prog_6_method_2_code 25 = .ok (.return_, 1) := by decide +kernel
theorem d23_Cir_clear_0 : decode prog_5_method_2_code 0 = .ok (.aload_n 1, 1) := by decide +kernel
theorem d23_Cir_clear_1 : decode prog_5_method_2_code 1 = .ok (.iconst 0, 1) := by decide +kernel
theorem d23_Cir_clear_2 : decode prog_5_method_2_code 2 = .ok (.aload_n 0, 1) := by decide +kernel
theorem d23_Cir_clear_3 : decode prog_5_method_2_code 3 = .ok (.getfield 10, 3) := by decide +kernel
theorem d23_Cir_clear_6 : decode prog_5_method_2_code 6 = .ok (.iconst 0, 1) := by decide +kernel
theorem d23_Cir_clear_7 : decode prog_5_method_2_code 7 = .ok (.iload_n 2, 1) := by decide +kernel
theorem d23_Cir_clear_8 : decode prog_5_method_2_code 8 = .ok (.invokestatic 65, 3) := by decide +kernel
theorem d23_Cir_clear_11 : decode prog_5_method_2_code 11 = .ok (.aload_n 0, 1) := by decide +kernel
theorem d23_Cir_clear_12 : decode prog_5_method_2_code 12 = .ok (.getfield 19, 3) := by decide +kernel
theorem d23_Cir_clear_15 : decode prog_5_method_2_code 15 = .ok (.invokevirtual 71, 3) := by decide +kernel
theorem d23_Cir_clear_18 : decode prog_5_method_2_code 18 = .ok (.aload_n 0, 1) := by decide +kernel
theorem d23_Cir_clear_19 : decode prog_5_method_2_code 19 = .ok (.iconst 0, 1) := by decide +kernel
theorem d23_Cir_clear_20 : decode prog_5_method_2_code 20 = .ok (.putfield 74, 3) := by decide +kernel
theorem d23_Cir_clear_23 : decode prog_5_method_2_code 23 = .ok (.aload_n 0, 1) := by decide +kernel
theorem d23_Cir_clear_24 : decode prog_5_method_2_code 24 = .ok (.iconst 0, 1) := by decide +kernel
theorem d23_Cir_clear_25 : decode prog_5_method_2_code 25 = .ok (.putfield 78, 3) := by decide +kernel
theorem d23_Cir_clear_28 : decode prog_5_method_2_code 28 = .ok (.aload_n 0, 1) := by decide +kernel
theorem d23_Cir_clear_29 : decode prog_5_method_2_code 29 = .ok (.iconst 0, 1) := by decide +kernel
theorem d23_Cir_clear_30 : decode prog_5_method_2_code 30 = .ok (.putfield 81, 3) := by decide +kernel
theorem d23_Cir_clear_33 : decode prog_5_method_2_code 33 = .ok (.aload_n 0, 1) := by decide +kernel
theorem d23_Cir_clear_34 : decode prog_5_method_2_code 34 = .ok (.iconst 0, 1) := by decide +kernel
theorem d23_Cir_clear_35 : decode prog_5_method_2_code 35 = .ok (.putfield 84, 3) := by decide +kernel
theorem d23_Cir_clear_38 : decode prog_5_method_2_code 38 = .ok (.aload_n 0, 1) := by decide +kernel
theorem d23_Cir_clear_39 : decode prog_5_method_2_code 39 = .ok (.iconst 0, 1) := by decide +kernel
theorem d23_Cir_clear_40 : decode prog_5_method_2_code 40 = .ok (.putfield 87, 3) := by decide +kernel
theorem d23_Cir_clear_43 : decode prog_5_method_2_code 43 = .ok (.aload_n 0, 1) := by decide +kernel
theorem d23_Cir_clear_44 : decode prog_5_method_2_code 44 = .ok (.iconst 0, 1) := by decide +kernel
theorem d23_Cir_clear_45 : decode prog_5_method_2_code 45 = .ok (.putfield 90, 3) := by decide +kernel
theorem d23_Cir_clear_48 : decode prog_5_method_2_code 48 = .ok (.return_, 1) := by decide +kernel
theorem d23_Flt_forget_0 : decode prog_7_method_6_code 0 = .ok (.aload_n 0, 1) := by decide +kernel
theorem d23_Flt_forget_1 : decode prog_7_method_6_code 1 = .ok (.iconst 0, 1) := by decide +kernel
theorem d23_Flt_forget_2 : decode prog_7_method_6_code 2 = .ok (.putfield 29, 3) := by decide +kernel
theorem d23_Flt_forget_5 : decode prog_7_method_6_code 5 = .ok (.aload_n 0, 1) := by decide +kernel
theorem d23_Flt_forget_6 : decode prog_7_method_6_code 6 = .ok (.iconst 0, 1) := by decide +kernel
theorem d23_Flt_forget_7 : decode prog_7_method_6_code 7 = .ok (.putfield 21, 3) := by decide +kernel
theorem d23_Flt_forget_10 : decode prog_7_method_6_code 10 = .ok (.aload_n 0, 1) := by decide +kernel
theorem d23_Flt_forget_11 : decode prog_7_method_6_code 11 = .ok (.iconst 0, 1) := by decide +kernel
theorem d23_Flt_forget_12 : decode prog_7_method_6_code 12 = .ok (.putfield 17, 3) := by decide +kernel
theorem d23_Flt_forget_15 : decode prog_7_method_6_code 15 = .ok (.return_, 1) := by decide +kernel
theorem d23_Tok_skipped_0 : decode prog_12_method_5_code 0 = .ok (.iload_n 1, 1) := by decide +kernel
theorem d23_Tok_skipped_1 : decode prog_12_method_5_code 1 = .ok (.istore_n 2, 1) := by decide +kernel
theorem d23_Tok_skipped_2 : decode prog_12_method_5_code 2 = .ok (.iload_n 2, 1) := by decide +kernel
theorem d23_Tok_skipped_3 : decode prog_12_method_5_code 3 = .ok (.ifCond .lt 104, 3) := by decide +kernel
theorem d23_Tok_skipped_6 : decode prog_12_method_5_code 6 = .ok (.iload_n 2, 1) := by decide +kernel
theorem d23_Tok_skipped_7 : decode prog_12_method_5_code 7 = .ok (.aload_n 0, 1) := by decide +kernel
theorem d23_Tok_skipped_8 : decode prog_12_method_5_code 8 = .ok (.getfield 51, 3) := by decide +kernel
theorem d23_Tok_skipped_11 : decode prog_12_method_5_code 11 = .ok (.if_icmp .ge 96, 3) := by decide +kernel
theorem d23_Tok_skipped_107 : decode prog_12_method_5_code 107 = .ok (.iload_n 2, 1) := by decide +kernel
theorem d23_Tok_skipped_108 : decode prog_12_method_5_code 108 = .ok (.ireturn, 1) := by decide +kernel
theorem d23_Tok_add_0 : decode prog_12_method_3_code 0 = .ok (.aload_n 0, 1) := by decide +kernel
theorem d23_Tok_add_1 : decode prog_12_method_3_code 1 = .ok (.getfield 55, 3) := by decide +kernel
theorem d23_Tok_add_4 : decode prog_12_method_3_code 4 = .ok (.ldc 74, 2) := by decide +kernel
theorem d23_Tok_add_6 : decode prog_12_method_3_code 6 = .ok (.if_icmp .gt 43, 3) := by decide +kernel
theorem d23_Tok_add_9 : decode prog_12_method_3_code 9 = .ok (.aload_n 0, 1) := by decide +kernel
theorem d23_Tok_add_10 : decode prog_12_method_3_code 10 = .ok (.getfield 10, 3) := by decide +kernel
theorem d23_Tok_add_13 : decode prog_12_method_3_code 13 = .ok (.aload_n 0, 1) := by decide +kernel
theorem d23_Tok_add_14 : decode prog_12_method_3_code 14 = .ok (.getfield 55, 3) := by decide +kernel
theorem d23_Tok_add_17 : decode prog_12_method_3_code 17 = .ok (.iload_n 1, 1) := by decide +kernel
theorem d23_Tok_add_18 : decode prog_12_method_3_code 18 = .ok (.iastore, 1) := by decide +kernel
theorem d23_Tok_add_19 : decode prog_12_method_3_code 19 = .ok (.aload_n 0, 1) := by decide +kernel
theorem d23_Tok_add_20 : decode prog_12_method_3_code 20 = .ok (.getfield 16, 3) := by decide +kernel
theorem d23_Tok_add_23 : decode prog_12_method_3_code 23 = .ok (.aload_n 0, 1) := by decide +kernel
theorem d23_Tok_add_24 : decode prog_12_method_3_code 24 = .ok (.getfield 55, 3) := by decide +kernel
theorem d23_Tok_add_27 : decode prog_12_method_3_code 27 = .ok (.iload_n 2, 1) := by decide +kernel
theorem d23_Tok_add_28 : decode prog_12_method_3_code 28 = .ok (.iastore, 1) := by decide +kernel
theorem d23_Tok_add_29 : decode prog_12_method_3_code 29 = .ok (.aload_n 0, 1) := by decide +kernel
theorem d23_Tok_add_30 : decode prog_12_method_3_code 30 = .ok (.getfield 19, 3) := by decide +kernel
theorem d23_Tok_add_33 : decode prog_12_method_3_code 33 = .ok (.aload_n 0, 1) := by decide +kernel
theorem d23_Tok_add_34 : decode prog_12_method_3_code 34 = .ok (.getfield 55, 3) := by decide +kernel
theorem d23_Tok_add_37 : decode prog_12_method_3_code 37 = .ok (.iload_n 3, 1) := by decide +kernel
theorem d23_Tok_add_38 : decode prog_12_method_3_code 38 = .ok (.iastore, 1) := by decide +kernel
theorem d23_Tok_add_39 : decode prog_12_method_3_code 39 = .ok (.aload_n 0, 1) := by decide +kernel
theorem d23_Tok_add_40 : decode prog_12_method_3_code 40 = .ok (.dup, 1) := by decide +kernel
theorem d23_Tok_add_41 : decode prog_12_method_3_code 41 = .ok (.getfield 55, 3) := by decide +kernel
theorem d23_Tok_add_44 : decode prog_12_method_3_code 44 = .ok (.iconst 1, 1) := by decide +kernel
theorem d23_Tok_add_45 : decode prog_12_method_3_code 45 = .ok (.iadd, 1) := by decide +kernel
theorem d23_Tok_add_46 : decode prog_12_method_3_code 46 = .ok (.putfield 55, 3) := by decide +kernel
theorem d23_Tok_add_49 : decode prog_12_method_3_code 49 = .ok (.return_, 1) := by decide +kernel
theorem d23_Tok_cut_0 : decode prog_12_method_2_code 0 = .ok (.aload_n 0, 1) := by decide +kernel
theorem d23_Tok_cut_1 : decode prog_12_method_2_code 1 = .ok (.aload_n 1, 1) := by decide +kernel
theorem d23_Tok_cut_2 : decode prog_12_method_2_code 2 = .ok (.putfield 47, 3) := by decide +kernel
theorem d23_Tok_cut_5 : decode prog_12_method_2_code 5 = .ok (.aload_n 0, 1) := by decide +kernel
theorem d23_Tok_cut_6 : decode prog_12_method_2_code 6 = .ok (.iload_n 2, 1) := by decide +kernel
theorem d23_Tok_cut_7 : decode prog_12_method_2_code 7 = .ok (.putfield 51, 3) := by decide +kernel
theorem d23_Tok_cut_10 : decode prog_12_method_2_code 10 = .ok (.aload_n 0, 1) := by decide +kernel
theorem d23_Tok_cut_11 : decode prog_12_method_2_code 11 = .ok (.iconst 0, 1) := by decide +kernel
theorem d23_Tok_cut_12 : decode prog_12_method_2_code 12 = .ok (.putfield 55, 3) := by decide +kernel
theorem d23_Tok_cut_15 : decode prog_12_method_2_code 15 = .ok (.aload_n 0, 1) := by decide +kernel
theorem d23_Tok_cut_16 : decode prog_12_method_2_code 16 = .ok (.iconst 0, 1) := by decide +kernel
theorem d23_Tok_cut_17 : decode prog_12_method_2_code 17 = .ok (.putfield 58, 3) := by decide +kernel
theorem d23_Tok_cut_20 : decode prog_12_method_2_code 20 = .ok (.aload_n 0, 1) := by decide +kernel
theorem d23_Tok_cut_21 : decode prog_12_method_2_code 21 = .ok (.iconst 0, 1) := by decide +kernel
theorem d23_Tok_cut_22 : decode prog_12_method_2_code 22 = .ok (.putfield 61, 3) := by decide +kernel
theorem d23_Tok_cut_25 : decode prog_12_method_2_code 25 = .ok (.aload_n 0, 1) := by decide +kernel
theorem d23_Tok_cut_26 : decode prog_12_method_2_code 26 = .ok (.getfield 22, 3) := by decide +kernel
theorem d23_Tok_cut_29 : decode prog_12_method_2_code 29 = .ok (.iconst (-1), 1) := by decide +kernel
theorem d23_Tok_cut_30 : decode prog_12_method_2_code 30 = .ok (.invokestatic 64, 3) := by decide +kernel
theorem d23_Tok_cut_33 : decode prog_12_method_2_code 33 = .ok (.aload_n 0, 1) := by decide +kernel
theorem d23_Tok_cut_34 : decode prog_12_method_2_code 34 = .ok (.iconst 0, 1) := by decide +kernel
theorem d23_Tok_cut_35 : decode prog_12_method_2_code 35 = .ok (.invokevirtual 70, 3) := by decide +kernel
theorem d23_Tok_cut_38 : decode prog_12_method_2_code 38 = .ok (.istore_n 3, 1) := by decide +kernel
theorem d23_Tok_cut_39 : decode prog_12_method_2_code 39 = .ok (.iconst 0, 1) := by decide +kernel
theorem d23_Tok_cut_40 : decode prog_12_method_2_code 40 = .ok (.istore 4, 2) := by decide +kernel
theorem d23_Tok_cut_42 : decode prog_12_method_2_code 42 = .ok (.iload 4, 2) := by decide +kernel
theorem d23_Tok_cut_44 : decode prog_12_method_2_code 44 = .ok (.ldc 74, 2) := by decide +kernel
theorem d23_Tok_cut_46 : decode prog_12_method_2_code 46 = .ok (.if_icmp .ge 45, 3) := by decide +kernel
theorem d23_Tok_cut_49 : decode prog_12_method_2_code 49 = .ok (.iload_n 3, 1) := by decide +kernel
theorem d23_Tok_cut_50 : decode prog_12_method_2_code 50 = .ok (.ifCond .lt 41, 3) := by decide +kernel
theorem d23_Tok_cut_53 : decode prog_12_method_2_code 53 = .ok (.iload_n 3, 1) := by decide +kernel
theorem d23_Tok_cut_54 : decode prog_12_method_2_code 54 = .ok (.aload_n 0, 1) := by decide +kernel
theorem d23_Tok_cut_55 : decode prog_12_method_2_code 55 = .ok (.getfield 51, 3) := by decide +kernel
theorem d23_Tok_cut_58 : decode prog_12_method_2_code 58 = .ok (.if_icmp .ge 33, 3) := by decide +kernel
theorem d23_Tok_cut_91 : decode prog_12_method_2_code 91 = .ok (.aload_n 0, 1) := by decide +kernel
theorem d23_Tok_cut_92 : decode prog_12_method_2_code 92 = .ok (.iload_n 3, 1) := by decide +kernel
theorem d23_Tok_cut_93 : decode prog_12_method_2_code 93 = .ok (.ifCond .ge 7, 3) := by decide +kernel
theorem d23_Tok_cut_100 : decode prog_12_method_2_code 100 = .ok (.iconst 5, 1) := by decide +kernel
theorem d23_Tok_cut_101 : decode prog_12_method_2_code 101 = .ok (.iload_n 3, 1) := by decide +kernel
theorem d23_Tok_cut_102 : decode prog_12_method_2_code 102 = .ok (.ifCond .ge 9, 3) := by decide +kernel
theorem d23_Tok_cut_111 : decode prog_12_method_2_code 111 = .ok (.aload_n 0, 1) := by decide +kernel
theorem d23_Tok_cut_112 : decode prog_12_method_2_code 112 = .ok (.getfield 51, 3) := by decide +kernel
theorem d23_Tok_cut_115 : decode prog_12_method_2_code 115 = .ok (.iconst 0, 1) := by decide +kernel
theorem d23_Tok_cut_116 : decode prog_12_method_2_code 116 = .ok (.invokevirtual 78, 3) := by decide +kernel
theorem d23_Tok_cut_119 : decode prog_12_method_2_code 119 = .ok (.return_, 1) := by decide +kernel
theorem d23_Mak_open_0 : decode prog_8_method_2_code 0 = .ok (.aload_n 0, 1) := by decide +kernel
theorem d23_Mak_open_1 : decode prog_8_method_2_code 1 = .ok (.aload_n 1, 1) := by decide +kernel
theorem d23_Mak_open_2 : decode prog_8_method_2_code 2 = .ok (.putfield 44, 3) := by decide +kernel
theorem d23_Mak_open_5 : decode prog_8_method_2_code 5 = .ok (.aload_n 0, 1) := by decide +kernel
theorem d23_Mak_open_6 : decode prog_8_method_2_code 6 = .ok (.aload_n 1, 1) := by decide +kernel
theorem d23_Mak_open_7 : decode prog_8_method_2_code 7 = .ok (.getfield 48, 3) := by decide +kernel
theorem d23_Mak_open_10 : decode prog_8_method_2_code 10 = .ok (.putfield 54, 3) := by decide +kernel
theorem d23_Mak_open_13 : decode prog_8_method_2_code 13 = .ok (.aload_n 0, 1) := by decide +kernel
theorem d23_Mak_open_14 : decode prog_8_method_2_code 14 = .ok (.iconst 0, 1) := by decide +kernel
theorem d23_Mak_open_15 : decode prog_8_method_2_code 15 = .ok (.putfield 55, 3) := by decide +kernel
theorem d23_Mak_open_18 : decode prog_8_method_2_code 18 = .ok (.aload_n 0, 1) := by decide +kernel
theorem d23_Mak_open_19 : decode prog_8_method_2_code 19 = .ok (.iconst 0, 1) := by decide +kernel
theorem d23_Mak_open_20 : decode prog_8_method_2_code 20 = .ok (.putfield 59, 3) := by decide +kernel
theorem d23_Mak_open_23 : decode prog_8_method_2_code 23 = .ok (.aload_n 0, 1) := by decide +kernel
theorem d23_Mak_open_24 : decode prog_8_method_2_code 24 = .ok (.getfield 11, 3) := by decide +kernel
theorem d23_Mak_open_27 : decode prog_8_method_2_code 27 = .ok (.iconst 0, 1) := by decide +kernel
theorem d23_Mak_open_28 : decode prog_8_method_2_code 28 = .ok (.aload_n 0, 1) := by decide +kernel
theorem d23_Mak_open_29 : decode prog_8_method_2_code 29 = .ok (.getfield 32, 3) := by decide +kernel
theorem d23_Mak_open_32 : decode prog_8_method_2_code 32 = .ok (.getfield 62, 3) := by decide +kernel
theorem d23_Mak_open_35 : decode prog_8_method_2_code 35 = .ok (.iconst (-1), 1) := by decide +kernel
theorem d23_Mak_open_36 : decode prog_8_method_2_code 36 = .ok (.invokestatic 65, 3) := by decide +kernel
theorem d23_Mak_open_39 : decode prog_8_method_2_code 39 = .ok (.return_, 1) := by decide +kernel
theorem d23_Mak_turn_0 : decode prog_8_method_3_code 0 = .ok (.aload_n 0, 1) := by decide +kernel
theorem d23_Mak_turn_1 : decode prog_8_method_3_code 1 = .ok (.iload_n 1, 1) := by decide +kernel
theorem d23_Mak_turn_2 : decode prog_8_method_3_code 2 = .ok (.putfield 71, 3) := by decide +kernel
theorem d23_Mak_turn_5 : decode prog_8_method_3_code 5 = .ok (.aload_n 0, 1) := by decide +kernel
theorem d23_Mak_turn_6 : decode prog_8_method_3_code 6 = .ok (.getfield 36, 3) := by decide +kernel
theorem d23_Mak_turn_9 : decode prog_8_method_3_code 9 = .ok (.iload_n 1, 1) := by decide +kernel
theorem d23_Mak_turn_10 : decode prog_8_method_3_code 10 = .ok (.putfield 75, 3) := by decide +kernel
theorem d23_Mak_turn_13 : decode prog_8_method_3_code 13 = .ok (.return_, 1) := by decide +kernel
theorem d23_Rea_begin_0 : decode prog_9_method_2_code 0 = .ok (.aload_n 0, 1) := by decide +kernel
theorem d23_Rea_begin_1 : decode prog_9_method_2_code 1 = .ok (.iconst 0, 1) := by decide +kernel
theorem d23_Rea_begin_2 : decode prog_9_method_2_code 2 = .ok (.putfield 27, 3) := by decide +kernel
theorem d23_Rea_begin_5 : decode prog_9_method_2_code 5 = .ok (.aload_n 0, 1) := by decide +kernel
theorem d23_Rea_begin_6 : decode prog_9_method_2_code 6 = .ok (.iconst 0, 1) := by decide +kernel
theorem d23_Rea_begin_7 : decode prog_9_method_2_code 7 = .ok (.putfield 31, 3) := by decide +kernel
theorem d23_Rea_begin_10 : decode prog_9_method_2_code 10 = .ok (.aload_n 0, 1) := by decide +kernel
theorem d23_Rea_begin_11 : decode prog_9_method_2_code 11 = .ok (.iconst 0, 1) := by decide +kernel
theorem d23_Rea_begin_12 : decode prog_9_method_2_code 12 = .ok (.putfield 34, 3) := by decide +kernel
theorem d23_Rea_begin_15 : decode prog_9_method_2_code 15 = .ok (.return_, 1) := by decide +kernel
set_option maxHeartbeats 4000000 in
set_option maxRecDepth 100000 in
/-- Code.clear() -/
theorem c_Cod_clear (l : Launch) (D : va_G) (q69 : Nat) (q83 : Nat) (q84 : Nat) (q85 : Nat) (q86 : Nat) (q87 : Nat) (q88 : Nat) (q89 : Nat) (q90 : Nat) (q91 : Nat) (q92 : Nat) (q93 : Nat) (q94 : Nat) (q95 : Nat) (q96 : Nat) (q97 : Nat) : q_Met l ⟨"SignalTheatre$Code", "clear", "()V"⟩ (Cond.code ⟨"SignalTheatre$Code", "clear", "()V"⟩ prog_6_method_2_code 1 none) { frames := 0, cells := 0, slots := 0, locals := 0 } D q_cl [.ref q69] [(q69, .inr (7, [.ref q83, .ref q84, .ref q85, .ref q86, .ref q87, .int 0, .ref q88, .ref q89, .int 0, .ref q90, .ref q91, .ref q92, .ref q93, .ref q94, .ref q95, .ref q96, .int 0, .ref q97, .int 0, .int 0]))] [] (fun r w ty => r = .inl none ∧ w = [(q69, .inr (7, [.ref q83, .ref q84, .ref q85, .ref q86, .ref q87, .int 0, .ref q88, .ref q89, .int 0, .ref q90, .ref q91, .ref q92, .ref q93, .ref q94, .ref q95, .ref q96, .int 0, .ref q97, .int 0, .int 0]))] ∧ ty = []) := by
  refine q_ofW (by decide) ?_
  intro p e s m below meth c C hr hin hex I
  have hx := C.1
  have hb := C.2.1
  have hl := lv_entry ([.ref q69]) (n := 1) (Nat.le_of_ble_eq_true rfl)
  rw [lg_entry_eq]
  generalize (lg_sl ([.ref q69]) ++ List.replicate (1 - (lg_sl ([.ref q69])).length) Slot.unset).toArray = ls at hl ⊢
  have hl : lv_has ls 1 [(0, .ref q69)] := hl
  refine lv_aload_n hx hb d23_Cod_clear_0 rfl (lv_at hl 0 rfl) ?_
  refine lv_iconst (v := 0) hx hb d23_Cod_clear_1 (by decide) ?_
  refine q_put t_Cod t_Cod_ok n_Cod C I 0 5 rfl rfl i_Cod (by decide) m23_0 rfl rfl rfl (Nat.le_of_ble_eq_true rfl) d23_Cod_clear_2 (fun H locs I => ?_)
  have I : q_I D q_cl _ s [(q69, .inr (7, [.ref q83, .ref q84, .ref q85, .ref q86, .ref q87, .int 0, .ref q88, .ref q89, .int 0, .ref q90, .ref q91, .ref q92, .ref q93, .ref q94, .ref q95, .ref q96, .int 0, .ref q97, .int 0, .int 0]))] [] H _ := I
  refine lv_aload_n hx hb d23_Cod_clear_5 rfl (lv_at hl 0 rfl) ?_
  refine lv_iconst (v := 0) hx hb d23_Cod_clear_6 (by decide) ?_
  refine q_put t_Cod t_Cod_ok n_Cod C I 0 8 rfl rfl i_Cod (by decide) m23_1 rfl rfl rfl (Nat.le_of_ble_eq_true rfl) d23_Cod_clear_7 (fun H locs I => ?_)
  have I : q_I D q_cl _ s [(q69, .inr (7, [.ref q83, .ref q84, .ref q85, .ref q86, .ref q87, .int 0, .ref q88, .ref q89, .int 0, .ref q90, .ref q91, .ref q92, .ref q93, .ref q94, .ref q95, .ref q96, .int 0, .ref q97, .int 0, .int 0]))] [] H _ := I
  refine lv_aload_n hx hb d23_Cod_clear_10 rfl (lv_at hl 0 rfl) ?_
  refine lv_iconst (v := 0) hx hb d23_Cod_clear_11 (by decide) ?_
  refine q_put t_Cod t_Cod_ok n_Cod C I 0 16 rfl rfl i_Cod (by decide) m23_2 rfl rfl rfl (Nat.le_of_ble_eq_true rfl) d23_Cod_clear_12 (fun H locs I => ?_)
  have I : q_I D q_cl _ s [(q69, .inr (7, [.ref q83, .ref q84, .ref q85, .ref q86, .ref q87, .int 0, .ref q88, .ref q89, .int 0, .ref q90, .ref q91, .ref q92, .ref q93, .ref q94, .ref q95, .ref q96, .int 0, .ref q97, .int 0, .int 0]))] [] H _ := I
  refine lv_aload_n hx hb d23_Cod_clear_15 rfl (lv_at hl 0 rfl) ?_
  refine lv_iconst (v := 0) hx hb d23_Cod_clear_16 (by decide) ?_
  refine q_put t_Cod t_Cod_ok n_Cod C I 0 18 rfl rfl i_Cod (by decide) m23_3 rfl rfl rfl (Nat.le_of_ble_eq_true rfl) d23_Cod_clear_17 (fun H locs I => ?_)
  have I : q_I D q_cl _ s [(q69, .inr (7, [.ref q83, .ref q84, .ref q85, .ref q86, .ref q87, .int 0, .ref q88, .ref q89, .int 0, .ref q90, .ref q91, .ref q92, .ref q93, .ref q94, .ref q95, .ref q96, .int 0, .ref q97, .int 0, .int 0]))] [] H _ := I
  refine lv_aload_n hx hb d23_Cod_clear_20 rfl (lv_at hl 0 rfl) ?_
  refine lv_iconst (v := 0) hx hb d23_Cod_clear_21 (by decide) ?_
  refine q_put t_Cod t_Cod_ok n_Cod C I 0 19 rfl rfl i_Cod (by decide) m23_4 rfl rfl rfl (Nat.le_of_ble_eq_true rfl) d23_Cod_clear_22 (fun H locs I => ?_)
  have I : q_I D q_cl _ s [(q69, .inr (7, [.ref q83, .ref q84, .ref q85, .ref q86, .ref q87, .int 0, .ref q88, .ref q89, .int 0, .ref q90, .ref q91, .ref q92, .ref q93, .ref q94, .ref q95, .ref q96, .int 0, .ref q97, .int 0, .int 0]))] [] H _ := I
  exact q_vret C hr I ⟨rfl, rfl, rfl⟩ (Nat.le_of_ble_eq_true rfl) (Nat.le_of_ble_eq_true rfl) d23_Cod_clear_25
set_option maxHeartbeats 4000000 in
set_option maxRecDepth 100000 in
/-- Circuit.clear(bytes, 0) -/
theorem c_Cir_clear (l : Launch) (D : va_G) (q67 : Nat) (q1 : Nat) (q68 : Nat) (q69 : Nat) (q70 : Nat) (q71 : Nat) (q72 : Nat) (q73 : Nat) (q74 : Nat) (q75 : Nat) (q76 : Nat) (q77 : Nat) (q78 : Nat) (q79 : Nat) (q80 : Nat) (q81 : Nat) (cA82 : ClassId) (g_q68 : Nat → Int32) (q83 : Nat) (q84 : Nat) (q85 : Nat) (q86 : Nat) (q87 : Nat) (q88 : Nat) (q89 : Nat) (q90 : Nat) (q91 : Nat) (q92 : Nat) (q93 : Nat) (q94 : Nat) (q95 : Nat) (q96 : Nat) (q97 : Nat) (cA2 : ClassId) (g_q1 : Nat → Int32) : q_Met l ⟨"SignalTheatre$Circuit", "clear", "([BI)V"⟩ (Cond.code ⟨"SignalTheatre$Circuit", "clear", "([BI)V"⟩ prog_5_method_2_code 3 none) { frames := 1, cells := 0, slots := 0, locals := 18 } D q_cl [.ref q67, .ref q1, .int 0] [(q67, .inr (6, [.ref q68, .ref q69, .ref q70, .int 0, .ref q71, .ref q72, .int 0, .int 0, .ref q73, .ref q74, .ref q75, .int 0, .ref q76, .ref q77, .ref q78, .int 0, .ref q79, .int 0, .ref q80, .ref q81])), (q68, .inl (cA82, 32768, .inl g_q68)), (q69, .inr (7, [.ref q83, .ref q84, .ref q85, .ref q86, .ref q87, .int 0, .ref q88, .ref q89, .int 0, .ref q90, .ref q91, .ref q92, .ref q93, .ref q94, .ref q95, .ref q96, .int 0, .ref q97, .int 0, .int 0])), (q1, .inl (cA2, 32768, .inl g_q1))] [(cA82, .byte), (cA2, .byte)] (fun r w ty => ∃ (g1 : Nat → Int32), r = .inl none ∧ w = [(q67, .inr (6, [.ref q68, .ref q69, .ref q70, .int 0, .ref q71, .ref q72, .int 0, .int 0, .ref q73, .ref q74, .ref q75, .int 0, .ref q76, .ref q77, .ref q78, .int 0, .ref q79, .int 0, .ref q80, .ref q81])), (q68, .inl (cA82, 32768, .inl g1)), (q1, .inl (cA2, 32768, .inl g_q1)), (q69, .inr (7, [.ref q83, .ref q84, .ref q85, .ref q86, .ref q87, .int 0, .ref q88, .ref q89, .int 0, .ref q90, .ref q91, .ref q92, .ref q93, .ref q94, .ref q95, .ref q96, .int 0, .ref q97, .int 0, .int 0]))] ∧ ty = [(cA82, .byte), (cA2, .byte)]) := by
  refine q_ofW (by decide) ?_
  intro p e s m below meth c C hr hin hex I
  have hx := C.1
  have hb := C.2.1
  have hl := lv_entry ([.ref q67, .ref q1, .int 0]) (n := 3) (Nat.le_of_ble_eq_true rfl)
  rw [lg_entry_eq]
  generalize (lg_sl ([.ref q67, .ref q1, .int 0]) ++ List.replicate (3 - (lg_sl ([.ref q67, .ref q1, .int 0])).length) Slot.unset).toArray = ls at hl ⊢
  have hl : lv_has ls 3 [(0, .ref q67), (1, .ref q1), (2, .int 0)] := hl
  refine lv_aload_n hx hb d23_Cir_clear_0 rfl (lv_at hl 1 rfl) ?_
  refine lv_iconst (v := 0) hx hb d23_Cir_clear_1 (by decide) ?_
  refine lv_aload_n hx hb d23_Cir_clear_2 rfl (lv_at hl 0 rfl) ?_
  refine q_get C I 0 0 rfl rfl i_Cir (by decide) m23_5 rfl d23_Cir_clear_3 ?_
  refine lv_iconst (v := 0) hx hb d23_Cir_clear_6 (by decide) ?_
  refine lv_iload_n hx hb d23_Cir_clear_7 rfl (lv_at hl 2 rfl) ?_
  refine q_copy0 C I 3 1 1 0 rfl rfl rfl rfl rfl m23_6 m23_7 m23_8 m23_9 hl.1 (Nat.le_of_ble_eq_true rfl) (Nat.le_of_ble_eq_true rfl) d23_Cir_clear_8 (fun g1 H locs I => ?_)
  have I : q_I D q_cl _ s [(q67, .inr (6, [.ref q68, .ref q69, .ref q70, .int 0, .ref q71, .ref q72, .int 0, .int 0, .ref q73, .ref q74, .ref q75, .int 0, .ref q76, .ref q77, .ref q78, .int 0, .ref q79, .int 0, .ref q80, .ref q81])), (q68, .inl (cA82, 32768, .inl g1)), (q69, .inr (7, [.ref q83, .ref q84, .ref q85, .ref q86, .ref q87, .int 0, .ref q88, .ref q89, .int 0, .ref q90, .ref q91, .ref q92, .ref q93, .ref q94, .ref q95, .ref q96, .int 0, .ref q97, .int 0, .int 0])), (q1, .inl (cA2, 32768, .inl g_q1))] [(cA82, .byte), (cA2, .byte)] H _ := I
  refine lv_aload_n hx hb d23_Cir_clear_11 rfl (lv_at hl 0 rfl) ?_
  refine q_get C I 0 1 rfl rfl i_Cir (by decide) m23_10 rfl d23_Cir_clear_12 ?_
  refine q_go (wr := [(q67, .inr (6, [.ref q68, .ref q69, .ref q70, .int 0, .ref q71, .ref q72, .int 0, .int 0, .ref q73, .ref q74, .ref q75, .int 0, .ref q76, .ref q77, .ref q78, .int 0, .ref q79, .int 0, .ref q80, .ref q81])), (q68, .inl (cA82, 32768, .inl g1)), (q1, .inl (cA2, 32768, .inl g_q1))]) (tyr := [(cA82, .byte), (cA2, .byte)]) C I (q_siteV (As := []) (rest := []) (q0 := 2) C I rfl rfl m23_11 m23_13 m23_14 m23_12 ⟨by decide, by decide⟩ (Eq.trans (b := some 0) (by decide +kernel) rfl) rfl d23_Cir_clear_15) (c_Cod_clear l D q69 q83 q84 q85 q86 q87 q88 q89 q90 q91 q92 q93 q94 q95 q96 q97) m23_12 m23_15 [2] [0, 1, 3] [] [0, 1] rfl rfl (by decide) (by decide) (by decide) rfl rfl hl.1 d23_Cir_clear_15 (Nat.le_of_ble_eq_true rfl) (Nat.le_of_ble_eq_true rfl) (Nat.le_of_ble_eq_true rfl) (Nat.le_of_ble_eq_true rfl) (fun v w ty H locs hp I => ?_) (fun E w ty H locs q ce hp _ _ _ _ => ?_)
  rotate_left
  · obtain ⟨hv, -⟩ := hp; cases hv
  obtain ⟨hv, rfl, rfl⟩ := hp
  cases hv
  have I : q_I D q_cl _ s [(q67, .inr (6, [.ref q68, .ref q69, .ref q70, .int 0, .ref q71, .ref q72, .int 0, .int 0, .ref q73, .ref q74, .ref q75, .int 0, .ref q76, .ref q77, .ref q78, .int 0, .ref q79, .int 0, .ref q80, .ref q81])), (q68, .inl (cA82, 32768, .inl g1)), (q1, .inl (cA2, 32768, .inl g_q1)), (q69, .inr (7, [.ref q83, .ref q84, .ref q85, .ref q86, .ref q87, .int 0, .ref q88, .ref q89, .int 0, .ref q90, .ref q91, .ref q92, .ref q93, .ref q94, .ref q95, .ref q96, .int 0, .ref q97, .int 0, .int 0]))] [(cA82, .byte), (cA2, .byte)] H _ := I
  refine W.eq (g2 := F0 m 18 ls []) rfl ?_
  refine lv_aload_n hx hb d23_Cir_clear_18 rfl (lv_at hl 0 rfl) ?_
  refine lv_iconst (v := 0) hx hb d23_Cir_clear_19 (by decide) ?_
  refine q_put t_Cir t_Cir_ok n_Cir C I 0 3 rfl rfl i_Cir (by decide) m23_16 rfl rfl rfl (Nat.le_of_ble_eq_true rfl) d23_Cir_clear_20 (fun H locs I => ?_)
  have I : q_I D q_cl _ s [(q67, .inr (6, [.ref q68, .ref q69, .ref q70, .int 0, .ref q71, .ref q72, .int 0, .int 0, .ref q73, .ref q74, .ref q75, .int 0, .ref q76, .ref q77, .ref q78, .int 0, .ref q79, .int 0, .ref q80, .ref q81])), (q68, .inl (cA82, 32768, .inl g1)), (q1, .inl (cA2, 32768, .inl g_q1)), (q69, .inr (7, [.ref q83, .ref q84, .ref q85, .ref q86, .ref q87, .int 0, .ref q88, .ref q89, .int 0, .ref q90, .ref q91, .ref q92, .ref q93, .ref q94, .ref q95, .ref q96, .int 0, .ref q97, .int 0, .int 0]))] [(cA82, .byte), (cA2, .byte)] H _ := I
  refine lv_aload_n hx hb d23_Cir_clear_23 rfl (lv_at hl 0 rfl) ?_
  refine lv_iconst (v := 0) hx hb d23_Cir_clear_24 (by decide) ?_
  refine q_put t_Cir t_Cir_ok n_Cir C I 0 6 rfl rfl i_Cir (by decide) m23_17 rfl rfl rfl (Nat.le_of_ble_eq_true rfl) d23_Cir_clear_25 (fun H locs I => ?_)
  have I : q_I D q_cl _ s [(q67, .inr (6, [.ref q68, .ref q69, .ref q70, .int 0, .ref q71, .ref q72, .int 0, .int 0, .ref q73, .ref q74, .ref q75, .int 0, .ref q76, .ref q77, .ref q78, .int 0, .ref q79, .int 0, .ref q80, .ref q81])), (q68, .inl (cA82, 32768, .inl g1)), (q1, .inl (cA2, 32768, .inl g_q1)), (q69, .inr (7, [.ref q83, .ref q84, .ref q85, .ref q86, .ref q87, .int 0, .ref q88, .ref q89, .int 0, .ref q90, .ref q91, .ref q92, .ref q93, .ref q94, .ref q95, .ref q96, .int 0, .ref q97, .int 0, .int 0]))] [(cA82, .byte), (cA2, .byte)] H _ := I
  refine lv_aload_n hx hb d23_Cir_clear_28 rfl (lv_at hl 0 rfl) ?_
  refine lv_iconst (v := 0) hx hb d23_Cir_clear_29 (by decide) ?_
  refine q_put t_Cir t_Cir_ok n_Cir C I 0 7 rfl rfl i_Cir (by decide) m23_18 rfl rfl rfl (Nat.le_of_ble_eq_true rfl) d23_Cir_clear_30 (fun H locs I => ?_)
  have I : q_I D q_cl _ s [(q67, .inr (6, [.ref q68, .ref q69, .ref q70, .int 0, .ref q71, .ref q72, .int 0, .int 0, .ref q73, .ref q74, .ref q75, .int 0, .ref q76, .ref q77, .ref q78, .int 0, .ref q79, .int 0, .ref q80, .ref q81])), (q68, .inl (cA82, 32768, .inl g1)), (q1, .inl (cA2, 32768, .inl g_q1)), (q69, .inr (7, [.ref q83, .ref q84, .ref q85, .ref q86, .ref q87, .int 0, .ref q88, .ref q89, .int 0, .ref q90, .ref q91, .ref q92, .ref q93, .ref q94, .ref q95, .ref q96, .int 0, .ref q97, .int 0, .int 0]))] [(cA82, .byte), (cA2, .byte)] H _ := I
  refine lv_aload_n hx hb d23_Cir_clear_33 rfl (lv_at hl 0 rfl) ?_
  refine lv_iconst (v := 0) hx hb d23_Cir_clear_34 (by decide) ?_
  refine q_put t_Cir t_Cir_ok n_Cir C I 0 11 rfl rfl i_Cir (by decide) m23_19 rfl rfl rfl (Nat.le_of_ble_eq_true rfl) d23_Cir_clear_35 (fun H locs I => ?_)
  have I : q_I D q_cl _ s [(q67, .inr (6, [.ref q68, .ref q69, .ref q70, .int 0, .ref q71, .ref q72, .int 0, .int 0, .ref q73, .ref q74, .ref q75, .int 0, .ref q76, .ref q77, .ref q78, .int 0, .ref q79, .int 0, .ref q80, .ref q81])), (q68, .inl (cA82, 32768, .inl g1)), (q1, .inl (cA2, 32768, .inl g_q1)), (q69, .inr (7, [.ref q83, .ref q84, .ref q85, .ref q86, .ref q87, .int 0, .ref q88, .ref q89, .int 0, .ref q90, .ref q91, .ref q92, .ref q93, .ref q94, .ref q95, .ref q96, .int 0, .ref q97, .int 0, .int 0]))] [(cA82, .byte), (cA2, .byte)] H _ := I
  refine lv_aload_n hx hb d23_Cir_clear_38 rfl (lv_at hl 0 rfl) ?_
  refine lv_iconst (v := 0) hx hb d23_Cir_clear_39 (by decide) ?_
  refine q_put t_Cir t_Cir_ok n_Cir C I 0 15 rfl rfl i_Cir (by decide) m23_20 rfl rfl rfl (Nat.le_of_ble_eq_true rfl) d23_Cir_clear_40 (fun H locs I => ?_)
  have I : q_I D q_cl _ s [(q67, .inr (6, [.ref q68, .ref q69, .ref q70, .int 0, .ref q71, .ref q72, .int 0, .int 0, .ref q73, .ref q74, .ref q75, .int 0, .ref q76, .ref q77, .ref q78, .int 0, .ref q79, .int 0, .ref q80, .ref q81])), (q68, .inl (cA82, 32768, .inl g1)), (q1, .inl (cA2, 32768, .inl g_q1)), (q69, .inr (7, [.ref q83, .ref q84, .ref q85, .ref q86, .ref q87, .int 0, .ref q88, .ref q89, .int 0, .ref q90, .ref q91, .ref q92, .ref q93, .ref q94, .ref q95, .ref q96, .int 0, .ref q97, .int 0, .int 0]))] [(cA82, .byte), (cA2, .byte)] H _ := I
  refine lv_aload_n hx hb d23_Cir_clear_43 rfl (lv_at hl 0 rfl) ?_
  refine lv_iconst (v := 0) hx hb d23_Cir_clear_44 (by decide) ?_
  refine q_put t_Cir t_Cir_ok n_Cir C I 0 17 rfl rfl i_Cir (by decide) m23_21 rfl rfl rfl (Nat.le_of_ble_eq_true rfl) d23_Cir_clear_45 (fun H locs I => ?_)
  have I : q_I D q_cl _ s [(q67, .inr (6, [.ref q68, .ref q69, .ref q70, .int 0, .ref q71, .ref q72, .int 0, .int 0, .ref q73, .ref q74, .ref q75, .int 0, .ref q76, .ref q77, .ref q78, .int 0, .ref q79, .int 0, .ref q80, .ref q81])), (q68, .inl (cA82, 32768, .inl g1)), (q1, .inl (cA2, 32768, .inl g_q1)), (q69, .inr (7, [.ref q83, .ref q84, .ref q85, .ref q86, .ref q87, .int 0, .ref q88, .ref q89, .int 0, .ref q90, .ref q91, .ref q92, .ref q93, .ref q94, .ref q95, .ref q96, .int 0, .ref q97, .int 0, .int 0]))] [(cA82, .byte), (cA2, .byte)] H _ := I
  exact q_vret C hr I ⟨g1, rfl, rfl, rfl⟩ (Nat.le_of_ble_eq_true rfl) (Nat.le_of_ble_eq_true rfl) d23_Cir_clear_48
set_option maxHeartbeats 4000000 in
set_option maxRecDepth 100000 in
/-- Faults.forget() -/
theorem c_Flt_forget (l : Launch) (D : va_G) (q19 : Nat) (q3 : Nat) : q_Met l ⟨"SignalTheatre$Faults", "forget", "()V"⟩ (Cond.code ⟨"SignalTheatre$Faults", "forget", "()V"⟩ prog_7_method_6_code 1 none) { frames := 0, cells := 0, slots := 0, locals := 0 } D q_cl [.ref q19] [(q19, .inr (2, [.ref q3, .int 0, .int (-1), .int 0, .int 0, .int 0, .int 0]))] [] (fun r w ty => r = .inl none ∧ w = [(q19, .inr (2, [.ref q3, .int 0, .int (-1), .int 0, .int 0, .int 0, .int 0]))] ∧ ty = []) := by
  refine q_ofW (by decide) ?_
  intro p e s m below meth c C hr hin hex I
  have hx := C.1
  have hb := C.2.1
  have hl := lv_entry ([.ref q19]) (n := 1) (Nat.le_of_ble_eq_true rfl)
  rw [lg_entry_eq]
  generalize (lg_sl ([.ref q19]) ++ List.replicate (1 - (lg_sl ([.ref q19])).length) Slot.unset).toArray = ls at hl ⊢
  have hl : lv_has ls 1 [(0, .ref q19)] := hl
  refine lv_aload_n hx hb d23_Flt_forget_0 rfl (lv_at hl 0 rfl) ?_
  refine lv_iconst (v := 0) hx hb d23_Flt_forget_1 (by decide) ?_
  refine q_put t_Flt t_Flt_ok n_Flt C I 0 3 rfl rfl i_Flt (by decide) m23_22 rfl rfl rfl (Nat.le_of_ble_eq_true rfl) d23_Flt_forget_2 (fun H locs I => ?_)
  have I : q_I D q_cl _ s [(q19, .inr (2, [.ref q3, .int 0, .int (-1), .int 0, .int 0, .int 0, .int 0]))] [] H _ := I
  refine lv_aload_n hx hb d23_Flt_forget_5 rfl (lv_at hl 0 rfl) ?_
  refine lv_iconst (v := 0) hx hb d23_Flt_forget_6 (by decide) ?_
  refine q_put t_Flt t_Flt_ok n_Flt C I 0 5 rfl rfl i_Flt (by decide) m23_23 rfl rfl rfl (Nat.le_of_ble_eq_true rfl) d23_Flt_forget_7 (fun H locs I => ?_)
  have I : q_I D q_cl _ s [(q19, .inr (2, [.ref q3, .int 0, .int (-1), .int 0, .int 0, .int 0, .int 0]))] [] H _ := I
  refine lv_aload_n hx hb d23_Flt_forget_10 rfl (lv_at hl 0 rfl) ?_
  refine lv_iconst (v := 0) hx hb d23_Flt_forget_11 (by decide) ?_
  refine q_put t_Flt t_Flt_ok n_Flt C I 0 6 rfl rfl i_Flt (by decide) m23_24 rfl rfl rfl (Nat.le_of_ble_eq_true rfl) d23_Flt_forget_12 (fun H locs I => ?_)
  have I : q_I D q_cl _ s [(q19, .inr (2, [.ref q3, .int 0, .int (-1), .int 0, .int 0, .int 0, .int 0]))] [] H _ := I
  exact q_vret C hr I ⟨rfl, rfl, rfl⟩ (Nat.le_of_ble_eq_true rfl) (Nat.le_of_ble_eq_true rfl) d23_Flt_forget_15
set_option maxHeartbeats 4000000 in
set_option maxRecDepth 100000 in
/-- skipped(0) of an empty text: 0 -/
theorem c_Tok_skipped (l : Launch) (D : va_G) (q3 : Nat) (tx : Nat) (q4 : Nat) (q5 : Nat) (q6 : Nat) (q7 : Nat) (q8 : Nat) (q9 : Nat) (q10 : Nat) (q11 : Nat) (q12 : Nat) (q13 : Nat) (q14 : Nat) : q_Met l ⟨"SignalTheatre$Tokens", "skipped", "(I)I"⟩ (Cond.code ⟨"SignalTheatre$Tokens", "skipped", "(I)I"⟩ prog_12_method_5_code 4 (some .int)) { frames := 0, cells := 0, slots := 0, locals := 0 } D q_cl [.ref q3, .int 0] [(q3, .inr (1, [.ref tx, .int 0, .ref q4, .ref q5, .ref q6, .int 0, .ref q7, .ref q8, .ref q9, .ref q10, .ref q11, .int 0, .ref q12, .ref q13, .ref q14, .int 0, .long 0, .long 0, .int 0, .int 0]))] [] (fun r w ty => r = .inl (some (.int 0)) ∧ w = [(q3, .inr (1, [.ref tx, .int 0, .ref q4, .ref q5, .ref q6, .int 0, .ref q7, .ref q8, .ref q9, .ref q10, .ref q11, .int 0, .ref q12, .ref q13, .ref q14, .int 0, .long 0, .long 0, .int 0, .int 0]))] ∧ ty = []) := by
  refine q_ofW (by decide) ?_
  intro p e s m below meth c C hr hin hex I
  have hx := C.1
  have hb := C.2.1
  have hl := lv_entry ([.ref q3, .int 0]) (n := 4) (Nat.le_of_ble_eq_true rfl)
  rw [lg_entry_eq]
  generalize (lg_sl ([.ref q3, .int 0]) ++ List.replicate (4 - (lg_sl ([.ref q3, .int 0])).length) Slot.unset).toArray = ls at hl ⊢
  have hl : lv_has ls 4 [(0, .ref q3), (1, .int 0)] := hl
  refine lv_iload_n hx hb d23_Tok_skipped_0 rfl (lv_at hl 1 rfl) ?_
  refine lv_istore_n (lv' := [(2, .int 0), (0, .ref q3), (1, .int 0)]) hx hb d23_Tok_skipped_1 rfl hl (by decide) rfl (fun ls hl => ?_)
  refine lv_iload_n hx hb d23_Tok_skipped_2 rfl (lv_at hl 0 rfl) ?_
  refine lv_if_lt (tgt := 107) hx hb d23_Tok_skipped_3 (by decide) (fun h => absurd h (by decide)) (fun _ => ?_)
  refine lv_iload_n hx hb d23_Tok_skipped_6 rfl (lv_at hl 0 rfl) ?_
  refine lv_aload_n hx hb d23_Tok_skipped_7 rfl (lv_at hl 1 rfl) ?_
  refine q_get C I 0 1 rfl rfl i_Tok (by decide) m23_25 rfl d23_Tok_skipped_8 ?_
  refine lv_icmp_ge (tgt := 107) hx hb d23_Tok_skipped_11 (by decide) (fun _ => ?_) (fun h => absurd h (by decide))
  refine lv_iload_n hx hb d23_Tok_skipped_107 rfl (lv_at hl 0 rfl) ?_
  exact q_iret C hr I ⟨rfl, rfl, rfl⟩ (Nat.le_of_ble_eq_true rfl) (Nat.le_of_ble_eq_true rfl) d23_Tok_skipped_108
set_option maxHeartbeats 4000000 in
set_option maxRecDepth 100000 in
/-- add(END, 0, 0) -/
theorem c_Tok_add (l : Launch) (D : va_G) (q3 : Nat) (tx : Nat) (q4 : Nat) (q5 : Nat) (q6 : Nat) (q7 : Nat) (q8 : Nat) (q9 : Nat) (q10 : Nat) (q11 : Nat) (q12 : Nat) (q13 : Nat) (q14 : Nat) (cA15 : ClassId) (g_q4 : Nat → Int32) (cA16 : ClassId) (g_q5 : Nat → Int32) (cA17 : ClassId) (g_q6 : Nat → Int32) : q_Met l ⟨"SignalTheatre$Tokens", "add", "(III)V"⟩ (Cond.code ⟨"SignalTheatre$Tokens", "add", "(III)V"⟩ prog_12_method_3_code 4 none) { frames := 0, cells := 0, slots := 0, locals := 0 } D q_cl [.ref q3, .int 5, .int 0, .int 0] [(q3, .inr (1, [.ref tx, .int 0, .ref q4, .ref q5, .ref q6, .int 0, .ref q7, .ref q8, .ref q9, .ref q10, .ref q11, .int 0, .ref q12, .ref q13, .ref q14, .int 0, .long 0, .long 0, .int 0, .int 0])), (q4, .inl (cA15, 32769, .inl g_q4)), (q5, .inl (cA16, 32769, .inl g_q5)), (q6, .inl (cA17, 32769, .inl g_q6))] [(cA15, .int), (cA16, .int), (cA17, .int)] (fun r w ty => r = .inl none ∧ w = [(q3, .inr (1, [.ref tx, .int 0, .ref q4, .ref q5, .ref q6, .int (0 + 1), .ref q7, .ref q8, .ref q9, .ref q10, .ref q11, .int 0, .ref q12, .ref q13, .ref q14, .int 0, .long 0, .long 0, .int 0, .int 0])), (q4, .inl (cA15, 32769, .inl (upd g_q4 0 5))), (q5, .inl (cA16, 32769, .inl (upd g_q5 0 0))), (q6, .inl (cA17, 32769, .inl (upd g_q6 0 0)))] ∧ ty = [(cA15, .int), (cA16, .int), (cA17, .int)]) := by
  refine q_ofW (by decide) ?_
  intro p e s m below meth c C hr hin hex I
  have hx := C.1
  have hb := C.2.1
  have hl := lv_entry ([.ref q3, .int 5, .int 0, .int 0]) (n := 4) (Nat.le_of_ble_eq_true rfl)
  rw [lg_entry_eq]
  generalize (lg_sl ([.ref q3, .int 5, .int 0, .int 0]) ++ List.replicate (4 - (lg_sl ([.ref q3, .int 5, .int 0, .int 0])).length) Slot.unset).toArray = ls at hl ⊢
  have hl : lv_has ls 4 [(0, .ref q3), (1, .int 5), (2, .int 0), (3, .int 0)] := hl
  refine lv_aload_n hx hb d23_Tok_add_0 rfl (lv_at hl 0 rfl) ?_
  refine q_get C I 0 5 rfl rfl i_Tok (by decide) m23_26 rfl d23_Tok_add_1 ?_
  refine lv_ldc hx hb C.2.2.2.1 (C.2.2.2.2.1 _ m23_27) d23_Tok_add_4 ?_
  refine lv_icmp_gt (tgt := 49) hx hb d23_Tok_add_6 (by decide) (fun h => absurd h (by decide)) (fun _ => ?_)
  refine lv_aload_n hx hb d23_Tok_add_9 rfl (lv_at hl 0 rfl) ?_
  refine q_get C I 0 2 rfl rfl i_Tok (by decide) m23_28 rfl d23_Tok_add_10 ?_
  refine lv_aload_n hx hb d23_Tok_add_13 rfl (lv_at hl 0 rfl) ?_
  refine q_get C I 0 5 rfl rfl i_Tok (by decide) m23_26 rfl d23_Tok_add_14 ?_
  refine lv_iload_n hx hb d23_Tok_add_17 rfl (lv_at hl 1 rfl) ?_
  refine q_iast C I 1 0 rfl rfl (by unfold vp_in; decide) d23_Tok_add_18 (fun H locs I => ?_)
  have I : q_I D q_cl _ s [(q3, .inr (1, [.ref tx, .int 0, .ref q4, .ref q5, .ref q6, .int 0, .ref q7, .ref q8, .ref q9, .ref q10, .ref q11, .int 0, .ref q12, .ref q13, .ref q14, .int 0, .long 0, .long 0, .int 0, .int 0])), (q4, .inl (cA15, 32769, .inl (upd g_q4 0 5))), (q5, .inl (cA16, 32769, .inl g_q5)), (q6, .inl (cA17, 32769, .inl g_q6))] [(cA15, .int), (cA16, .int), (cA17, .int)] H _ := I
  refine lv_aload_n hx hb d23_Tok_add_19 rfl (lv_at hl 0 rfl) ?_
  refine q_get C I 0 3 rfl rfl i_Tok (by decide) m23_29 rfl d23_Tok_add_20 ?_
  refine lv_aload_n hx hb d23_Tok_add_23 rfl (lv_at hl 0 rfl) ?_
  refine q_get C I 0 5 rfl rfl i_Tok (by decide) m23_26 rfl d23_Tok_add_24 ?_
  refine lv_iload_n hx hb d23_Tok_add_27 rfl (lv_at hl 2 rfl) ?_
  refine q_iast C I 2 1 rfl rfl (by unfold vp_in; decide) d23_Tok_add_28 (fun H locs I => ?_)
  have I : q_I D q_cl _ s [(q3, .inr (1, [.ref tx, .int 0, .ref q4, .ref q5, .ref q6, .int 0, .ref q7, .ref q8, .ref q9, .ref q10, .ref q11, .int 0, .ref q12, .ref q13, .ref q14, .int 0, .long 0, .long 0, .int 0, .int 0])), (q4, .inl (cA15, 32769, .inl (upd g_q4 0 5))), (q5, .inl (cA16, 32769, .inl (upd g_q5 0 0))), (q6, .inl (cA17, 32769, .inl g_q6))] [(cA15, .int), (cA16, .int), (cA17, .int)] H _ := I
  refine lv_aload_n hx hb d23_Tok_add_29 rfl (lv_at hl 0 rfl) ?_
  refine q_get C I 0 4 rfl rfl i_Tok (by decide) m23_30 rfl d23_Tok_add_30 ?_
  refine lv_aload_n hx hb d23_Tok_add_33 rfl (lv_at hl 0 rfl) ?_
  refine q_get C I 0 5 rfl rfl i_Tok (by decide) m23_26 rfl d23_Tok_add_34 ?_
  refine lv_iload_n hx hb d23_Tok_add_37 rfl (lv_at hl 3 rfl) ?_
  refine q_iast C I 3 2 rfl rfl (by unfold vp_in; decide) d23_Tok_add_38 (fun H locs I => ?_)
  have I : q_I D q_cl _ s [(q3, .inr (1, [.ref tx, .int 0, .ref q4, .ref q5, .ref q6, .int 0, .ref q7, .ref q8, .ref q9, .ref q10, .ref q11, .int 0, .ref q12, .ref q13, .ref q14, .int 0, .long 0, .long 0, .int 0, .int 0])), (q4, .inl (cA15, 32769, .inl (upd g_q4 0 5))), (q5, .inl (cA16, 32769, .inl (upd g_q5 0 0))), (q6, .inl (cA17, 32769, .inl (upd g_q6 0 0)))] [(cA15, .int), (cA16, .int), (cA17, .int)] H _ := I
  refine lv_aload_n hx hb d23_Tok_add_39 rfl (lv_at hl 0 rfl) ?_
  refine lv_dup hx hb d23_Tok_add_40 rfl ?_
  refine q_get C I 0 5 rfl rfl i_Tok (by decide) m23_26 rfl d23_Tok_add_41 ?_
  refine lv_iconst (v := 1) hx hb d23_Tok_add_44 (by decide) ?_
  refine lv_iadd hx hb d23_Tok_add_45 ?_
  refine q_put t_Tok t_Tok_ok n_Tok C I 0 5 rfl rfl i_Tok (by decide) m23_26 rfl rfl rfl (Nat.le_of_ble_eq_true rfl) d23_Tok_add_46 (fun H locs I => ?_)
  have I : q_I D q_cl _ s [(q3, .inr (1, [.ref tx, .int 0, .ref q4, .ref q5, .ref q6, .int (0 + 1), .ref q7, .ref q8, .ref q9, .ref q10, .ref q11, .int 0, .ref q12, .ref q13, .ref q14, .int 0, .long 0, .long 0, .int 0, .int 0])), (q4, .inl (cA15, 32769, .inl (upd g_q4 0 5))), (q5, .inl (cA16, 32769, .inl (upd g_q5 0 0))), (q6, .inl (cA17, 32769, .inl (upd g_q6 0 0)))] [(cA15, .int), (cA16, .int), (cA17, .int)] H _ := I
  exact q_vret C hr I ⟨rfl, rfl, rfl⟩ (Nat.le_of_ble_eq_true rfl) (Nat.le_of_ble_eq_true rfl) d23_Tok_add_49
set_option maxHeartbeats 4000000 in
set_option maxRecDepth 100000 in
/-- cut(bytes, 0): one TOKEN, the END -/
theorem c_Tok_cut (l : Launch) (D : va_G) (q3 : Nat) (q68 : Nat) (q4 : Nat) (q5 : Nat) (q6 : Nat) (q7 : Nat) (q8 : Nat) (q9 : Nat) (q10 : Nat) (q11 : Nat) (q12 : Nat) (q13 : Nat) (q14 : Nat) (cA15 : ClassId) (g_q4 : Nat → Int32) (cA16 : ClassId) (g_q5 : Nat → Int32) (cA17 : ClassId) (g_q6 : Nat → Int32) (cA18 : ClassId) (g_q7 : Nat → Int32) : q_Met l ⟨"SignalTheatre$Tokens", "cut", "([BI)V"⟩ (Cond.code ⟨"SignalTheatre$Tokens", "cut", "([BI)V"⟩ prog_12_method_2_code 6 none) { frames := 1, cells := 0, slots := 0, locals := 15 } D q_cl [.ref q3, .ref q68, .int 0] [(q3, .inr (1, [.null, .int 0, .ref q4, .ref q5, .ref q6, .int 0, .ref q7, .ref q8, .ref q9, .ref q10, .ref q11, .int 0, .ref q12, .ref q13, .ref q14, .int 0, .long 0, .long 0, .int 0, .int 0])), (q4, .inl (cA15, 32769, .inl g_q4)), (q5, .inl (cA16, 32769, .inl g_q5)), (q6, .inl (cA17, 32769, .inl g_q6)), (q7, .inl (cA18, 1024, .inl g_q7))] [(cA15, .int), (cA16, .int), (cA17, .int), (cA18, .int)] (fun r w ty => ∃ (g1 : Nat → Int32), r = .inl none ∧ w = [(q7, .inl (cA18, 1024, .inl g1)), (q3, .inr (1, [.ref q68, .int 0, .ref q4, .ref q5, .ref q6, .int (0 + 1), .ref q7, .ref q8, .ref q9, .ref q10, .ref q11, .int 0, .ref q12, .ref q13, .ref q14, .int 0, .long 0, .long 0, .int 0, .int 0])), (q4, .inl (cA15, 32769, .inl (upd g_q4 0 5))), (q5, .inl (cA16, 32769, .inl (upd g_q5 0 0))), (q6, .inl (cA17, 32769, .inl (upd g_q6 0 0)))] ∧ ty = [(cA18, .int), (cA15, .int), (cA16, .int), (cA17, .int)]) := by
  refine q_ofW (by decide) ?_
  intro p e s m below meth c C hr hin hex I
  have hx := C.1
  have hb := C.2.1
  have hl := lv_entry ([.ref q3, .ref q68, .int 0]) (n := 6) (Nat.le_of_ble_eq_true rfl)
  rw [lg_entry_eq]
  generalize (lg_sl ([.ref q3, .ref q68, .int 0]) ++ List.replicate (6 - (lg_sl ([.ref q3, .ref q68, .int 0])).length) Slot.unset).toArray = ls at hl ⊢
  have hl : lv_has ls 6 [(0, .ref q3), (1, .ref q68), (2, .int 0)] := hl
  refine lv_aload_n hx hb d23_Tok_cut_0 rfl (lv_at hl 0 rfl) ?_
  refine lv_aload_n hx hb d23_Tok_cut_1 rfl (lv_at hl 1 rfl) ?_
  refine q_put t_Tok t_Tok_ok n_Tok C I 0 0 rfl rfl i_Tok (by decide) m23_31 rfl rfl rfl (Nat.le_of_ble_eq_true rfl) d23_Tok_cut_2 (fun H locs I => ?_)
  have I : q_I D q_cl _ s [(q3, .inr (1, [.ref q68, .int 0, .ref q4, .ref q5, .ref q6, .int 0, .ref q7, .ref q8, .ref q9, .ref q10, .ref q11, .int 0, .ref q12, .ref q13, .ref q14, .int 0, .long 0, .long 0, .int 0, .int 0])), (q4, .inl (cA15, 32769, .inl g_q4)), (q5, .inl (cA16, 32769, .inl g_q5)), (q6, .inl (cA17, 32769, .inl g_q6)), (q7, .inl (cA18, 1024, .inl g_q7))] [(cA15, .int), (cA16, .int), (cA17, .int), (cA18, .int)] H _ := I
  refine lv_aload_n hx hb d23_Tok_cut_5 rfl (lv_at hl 0 rfl) ?_
  refine lv_iload_n hx hb d23_Tok_cut_6 rfl (lv_at hl 2 rfl) ?_
  refine q_put t_Tok t_Tok_ok n_Tok C I 0 1 rfl rfl i_Tok (by decide) m23_25 rfl rfl rfl (Nat.le_of_ble_eq_true rfl) d23_Tok_cut_7 (fun H locs I => ?_)
  have I : q_I D q_cl _ s [(q3, .inr (1, [.ref q68, .int 0, .ref q4, .ref q5, .ref q6, .int 0, .ref q7, .ref q8, .ref q9, .ref q10, .ref q11, .int 0, .ref q12, .ref q13, .ref q14, .int 0, .long 0, .long 0, .int 0, .int 0])), (q4, .inl (cA15, 32769, .inl g_q4)), (q5, .inl (cA16, 32769, .inl g_q5)), (q6, .inl (cA17, 32769, .inl g_q6)), (q7, .inl (cA18, 1024, .inl g_q7))] [(cA15, .int), (cA16, .int), (cA17, .int), (cA18, .int)] H _ := I
  refine lv_aload_n hx hb d23_Tok_cut_10 rfl (lv_at hl 0 rfl) ?_
  refine lv_iconst (v := 0) hx hb d23_Tok_cut_11 (by decide) ?_
  refine q_put t_Tok t_Tok_ok n_Tok C I 0 5 rfl rfl i_Tok (by decide) m23_26 rfl rfl rfl (Nat.le_of_ble_eq_true rfl) d23_Tok_cut_12 (fun H locs I => ?_)
  have I : q_I D q_cl _ s [(q3, .inr (1, [.ref q68, .int 0, .ref q4, .ref q5, .ref q6, .int 0, .ref q7, .ref q8, .ref q9, .ref q10, .ref q11, .int 0, .ref q12, .ref q13, .ref q14, .int 0, .long 0, .long 0, .int 0, .int 0])), (q4, .inl (cA15, 32769, .inl g_q4)), (q5, .inl (cA16, 32769, .inl g_q5)), (q6, .inl (cA17, 32769, .inl g_q6)), (q7, .inl (cA18, 1024, .inl g_q7))] [(cA15, .int), (cA16, .int), (cA17, .int), (cA18, .int)] H _ := I
  refine lv_aload_n hx hb d23_Tok_cut_15 rfl (lv_at hl 0 rfl) ?_
  refine lv_iconst (v := 0) hx hb d23_Tok_cut_16 (by decide) ?_
  refine q_put t_Tok t_Tok_ok n_Tok C I 0 11 rfl rfl i_Tok (by decide) m23_32 rfl rfl rfl (Nat.le_of_ble_eq_true rfl) d23_Tok_cut_17 (fun H locs I => ?_)
  have I : q_I D q_cl _ s [(q3, .inr (1, [.ref q68, .int 0, .ref q4, .ref q5, .ref q6, .int 0, .ref q7, .ref q8, .ref q9, .ref q10, .ref q11, .int 0, .ref q12, .ref q13, .ref q14, .int 0, .long 0, .long 0, .int 0, .int 0])), (q4, .inl (cA15, 32769, .inl g_q4)), (q5, .inl (cA16, 32769, .inl g_q5)), (q6, .inl (cA17, 32769, .inl g_q6)), (q7, .inl (cA18, 1024, .inl g_q7))] [(cA15, .int), (cA16, .int), (cA17, .int), (cA18, .int)] H _ := I
  refine lv_aload_n hx hb d23_Tok_cut_20 rfl (lv_at hl 0 rfl) ?_
  refine lv_iconst (v := 0) hx hb d23_Tok_cut_21 (by decide) ?_
  refine q_put t_Tok t_Tok_ok n_Tok C I 0 15 rfl rfl i_Tok (by decide) m23_33 rfl rfl rfl (Nat.le_of_ble_eq_true rfl) d23_Tok_cut_22 (fun H locs I => ?_)
  have I : q_I D q_cl _ s [(q3, .inr (1, [.ref q68, .int 0, .ref q4, .ref q5, .ref q6, .int 0, .ref q7, .ref q8, .ref q9, .ref q10, .ref q11, .int 0, .ref q12, .ref q13, .ref q14, .int 0, .long 0, .long 0, .int 0, .int 0])), (q4, .inl (cA15, 32769, .inl g_q4)), (q5, .inl (cA16, 32769, .inl g_q5)), (q6, .inl (cA17, 32769, .inl g_q6)), (q7, .inl (cA18, 1024, .inl g_q7))] [(cA15, .int), (cA16, .int), (cA17, .int), (cA18, .int)] H _ := I
  refine lv_aload_n hx hb d23_Tok_cut_25 rfl (lv_at hl 0 rfl) ?_
  refine q_get C I 0 6 rfl rfl i_Tok (by decide) m23_34 rfl d23_Tok_cut_26 ?_
  refine lv_iconst (v := -1) hx hb d23_Tok_cut_29 (by decide) ?_
  refine q_go (wr := [(q3, .inr (1, [.ref q68, .int 0, .ref q4, .ref q5, .ref q6, .int 0, .ref q7, .ref q8, .ref q9, .ref q10, .ref q11, .int 0, .ref q12, .ref q13, .ref q14, .int 0, .long 0, .long 0, .int 0, .int 0])), (q4, .inl (cA15, 32769, .inl g_q4)), (q5, .inl (cA16, 32769, .inl g_q5)), (q6, .inl (cA17, 32769, .inl g_q6))]) (tyr := [(cA15, .int), (cA16, .int), (cA17, .int)]) C I (q_siteS (As := [.ref q7, .int (-1)]) (rest := []) C m23_35 m23_37 m23_38 m23_36 ⟨by decide, by decide⟩ (Eq.trans (b := some 2) (by decide +kernel) rfl) rfl d23_Tok_cut_30) (c_fill l D q7 ((-1)) cA18 (g_q7)) m23_36 m23_38 [4] [0, 1, 2, 3] [3] [0, 1, 2] rfl rfl (by decide) (by decide) (by decide) rfl rfl hl.1 d23_Tok_cut_30 (Nat.le_of_ble_eq_true rfl) (Nat.le_of_ble_eq_true rfl) (Nat.le_of_ble_eq_true rfl) (Nat.le_of_ble_eq_true rfl) (fun v w ty H locs hp I => ?_) (fun E w ty H locs q ce hp _ _ _ _ => ?_)
  rotate_left
  · obtain ⟨_, hv, -⟩ := hp; cases hv
  obtain ⟨g1, hv, rfl, rfl⟩ := hp
  cases hv
  have I : q_I D q_cl _ s [(q3, .inr (1, [.ref q68, .int 0, .ref q4, .ref q5, .ref q6, .int 0, .ref q7, .ref q8, .ref q9, .ref q10, .ref q11, .int 0, .ref q12, .ref q13, .ref q14, .int 0, .long 0, .long 0, .int 0, .int 0])), (q4, .inl (cA15, 32769, .inl g_q4)), (q5, .inl (cA16, 32769, .inl g_q5)), (q6, .inl (cA17, 32769, .inl g_q6)), (q7, .inl (cA18, 1024, .inl g1))] [(cA15, .int), (cA16, .int), (cA17, .int), (cA18, .int)] H _ := I
  refine W.eq (g2 := F0 m 33 ls []) rfl ?_
  refine lv_aload_n hx hb d23_Tok_cut_33 rfl (lv_at hl 0 rfl) ?_
  refine lv_iconst (v := 0) hx hb d23_Tok_cut_34 (by decide) ?_
  refine q_go (wr := [(q4, .inl (cA15, 32769, .inl g_q4)), (q5, .inl (cA16, 32769, .inl g_q5)), (q6, .inl (cA17, 32769, .inl g_q6)), (q7, .inl (cA18, 1024, .inl g1))]) (tyr := [(cA15, .int), (cA16, .int), (cA17, .int), (cA18, .int)]) C I (q_siteV (As := [.int 0]) (rest := []) (q0 := 0) C I rfl rfl m23_39 m23_41 m23_42 m23_40 ⟨by decide, by decide⟩ (Eq.trans (b := some 1) (by decide +kernel) rfl) rfl d23_Tok_cut_35) (c_Tok_skipped l D q3 q68 q4 q5 q6 q7 q8 q9 q10 q11 q12 q13 q14) m23_40 m23_43 [0] [1, 2, 3, 4] [] [0, 1, 2, 3] rfl rfl (by decide) (by decide) (by decide) rfl rfl hl.1 d23_Tok_cut_35 (Nat.le_of_ble_eq_true rfl) (Nat.le_of_ble_eq_true rfl) (Nat.le_of_ble_eq_true rfl) (Nat.le_of_ble_eq_true rfl) (fun v w ty H locs hp I => ?_) (fun E w ty H locs q ce hp _ _ _ _ => ?_)
  rotate_left
  · obtain ⟨hv, -⟩ := hp; cases hv
  obtain ⟨hv, rfl, rfl⟩ := hp
  cases hv
  have I : q_I D q_cl _ s [(q4, .inl (cA15, 32769, .inl g_q4)), (q5, .inl (cA16, 32769, .inl g_q5)), (q6, .inl (cA17, 32769, .inl g_q6)), (q7, .inl (cA18, 1024, .inl g1)), (q3, .inr (1, [.ref q68, .int 0, .ref q4, .ref q5, .ref q6, .int 0, .ref q7, .ref q8, .ref q9, .ref q10, .ref q11, .int 0, .ref q12, .ref q13, .ref q14, .int 0, .long 0, .long 0, .int 0, .int 0]))] [(cA15, .int), (cA16, .int), (cA17, .int), (cA18, .int)] H _ := I
  refine W.eq (g2 := F0 m 38 ls [.int 0]) rfl ?_
  refine lv_istore_n (lv' := [(3, .int 0), (0, .ref q3), (1, .ref q68), (2, .int 0)]) hx hb d23_Tok_cut_38 rfl hl (by decide) rfl (fun ls hl => ?_)
  refine lv_iconst (v := 0) hx hb d23_Tok_cut_39 (by decide) ?_
  refine lv_istore (lv' := [(4, .int 0), (3, .int 0), (0, .ref q3), (1, .ref q68), (2, .int 0)]) hx hb d23_Tok_cut_40 hl (by decide) rfl (fun ls hl => ?_)
  refine lv_iload hx hb d23_Tok_cut_42 (lv_at hl 0 rfl) ?_
  refine lv_ldc hx hb C.2.2.2.1 (C.2.2.2.2.1 _ m23_27) d23_Tok_cut_44 ?_
  refine lv_icmp_ge (tgt := 91) hx hb d23_Tok_cut_46 (by decide) (fun h => absurd h (by decide)) (fun _ => ?_)
  refine lv_iload_n hx hb d23_Tok_cut_49 rfl (lv_at hl 1 rfl) ?_
  refine lv_if_lt (tgt := 91) hx hb d23_Tok_cut_50 (by decide) (fun h => absurd h (by decide)) (fun _ => ?_)
  refine lv_iload_n hx hb d23_Tok_cut_53 rfl (lv_at hl 1 rfl) ?_
  refine lv_aload_n hx hb d23_Tok_cut_54 rfl (lv_at hl 2 rfl) ?_
  refine q_get C I 4 1 rfl rfl i_Tok (by decide) m23_25 rfl d23_Tok_cut_55 ?_
  refine lv_icmp_ge (tgt := 91) hx hb d23_Tok_cut_58 (by decide) (fun _ => ?_) (fun h => absurd h (by decide))
  refine lv_aload_n hx hb d23_Tok_cut_91 rfl (lv_at hl 2 rfl) ?_
  refine lv_iload_n hx hb d23_Tok_cut_92 rfl (lv_at hl 1 rfl) ?_
  refine lv_if_ge (tgt := 100) hx hb d23_Tok_cut_93 (by decide) (fun _ => ?_) (fun h => absurd h (by decide))
  refine lv_iconst (v := 5) hx hb d23_Tok_cut_100 (by decide) ?_
  refine lv_iload_n hx hb d23_Tok_cut_101 rfl (lv_at hl 1 rfl) ?_
  refine lv_if_ge (tgt := 111) hx hb d23_Tok_cut_102 (by decide) (fun _ => ?_) (fun h => absurd h (by decide))
  refine lv_aload_n hx hb d23_Tok_cut_111 rfl (lv_at hl 2 rfl) ?_
  refine q_get C I 4 1 rfl rfl i_Tok (by decide) m23_25 rfl d23_Tok_cut_112 ?_
  refine lv_iconst (v := 0) hx hb d23_Tok_cut_115 (by decide) ?_
  refine q_go (wr := [(q7, .inl (cA18, 1024, .inl g1))]) (tyr := [(cA18, .int)]) C I (q_siteV (As := [.int 5, .int 0, .int 0]) (rest := []) (q0 := 4) C I rfl rfl m23_44 m23_46 m23_47 m23_45 ⟨by decide, by decide⟩ (Eq.trans (b := some 3) (by decide +kernel) rfl) rfl d23_Tok_cut_116) (c_Tok_add l D q3 q68 q4 q5 q6 q7 q8 q9 q10 q11 q12 q13 q14 cA15 g_q4 cA16 g_q5 cA17 g_q6) m23_45 m23_43 [4, 0, 1, 2] [3] [0, 1, 2] [3] rfl rfl (by decide) (by decide) (by decide) rfl rfl hl.1 d23_Tok_cut_116 (Nat.le_of_ble_eq_true rfl) (Nat.le_of_ble_eq_true rfl) (Nat.le_of_ble_eq_true rfl) (Nat.le_of_ble_eq_true rfl) (fun v w ty H locs hp I => ?_) (fun E w ty H locs q ce hp _ _ _ _ => ?_)
  rotate_left
  · obtain ⟨hv, -⟩ := hp; cases hv
  obtain ⟨hv, rfl, rfl⟩ := hp
  cases hv
  have I : q_I D q_cl _ s [(q7, .inl (cA18, 1024, .inl g1)), (q3, .inr (1, [.ref q68, .int 0, .ref q4, .ref q5, .ref q6, .int (0 + 1), .ref q7, .ref q8, .ref q9, .ref q10, .ref q11, .int 0, .ref q12, .ref q13, .ref q14, .int 0, .long 0, .long 0, .int 0, .int 0])), (q4, .inl (cA15, 32769, .inl (upd g_q4 0 5))), (q5, .inl (cA16, 32769, .inl (upd g_q5 0 0))), (q6, .inl (cA17, 32769, .inl (upd g_q6 0 0)))] [(cA18, .int), (cA15, .int), (cA16, .int), (cA17, .int)] H _ := I
  refine W.eq (g2 := F0 m 119 ls []) rfl ?_
  exact q_vret C hr I ⟨g1, rfl, rfl, rfl⟩ (Nat.le_of_ble_eq_true rfl) (Nat.le_of_ble_eq_true rfl) d23_Tok_cut_119
set_option maxHeartbeats 4000000 in
set_option maxRecDepth 100000 in
/-- Maker.open(made) -/
theorem c_Mak_open (l : Launch) (D : va_G) (q20 : Nat) (q67 : Nat) (q3 : Nat) (q19 : Nat) (q21 : Nat) (q24 : Nat) (q25 : Nat) (q26 : Nat) (q27 : Nat) (q28 : Nat) (q29 : Nat) (q68 : Nat) (q69 : Nat) (q70 : Nat) (q71 : Nat) (q72 : Nat) (q73 : Nat) (q74 : Nat) (q75 : Nat) (q76 : Nat) (q77 : Nat) (q78 : Nat) (q79 : Nat) (q80 : Nat) (q81 : Nat) (tx : Nat) (q4 : Nat) (q5 : Nat) (q6 : Nat) (q7 : Nat) (q8 : Nat) (q9 : Nat) (q10 : Nat) (q11 : Nat) (q12 : Nat) (q13 : Nat) (q14 : Nat) (cA30 : ClassId) (g_q24 : Nat → Int32) : q_Met l ⟨"SignalTheatre$Maker", "open", "(LSignalTheatre$Circuit;)V"⟩ (Cond.code ⟨"SignalTheatre$Maker", "open", "(LSignalTheatre$Circuit;)V"⟩ prog_8_method_2_code 2 none) { frames := 2, cells := 0, slots := 0, locals := 30 } D q_cl [.ref q20, .ref q67] [(q20, .inr (3, [.ref q3, .ref q19, .ref q21, .null, .null, .int 0, .int 0, .int 0, .int 0, .int 0, .int 0, .ref q24, .ref q25, .ref q26, .ref q27, .ref q28, .ref q29, .int 0])), (q67, .inr (6, [.ref q68, .ref q69, .ref q70, .int 0, .ref q71, .ref q72, .int 0, .int 0, .ref q73, .ref q74, .ref q75, .int 0, .ref q76, .ref q77, .ref q78, .int 0, .ref q79, .int 0, .ref q80, .ref q81])), (q3, .inr (1, [.ref tx, .int 0, .ref q4, .ref q5, .ref q6, .int (0 + 1), .ref q7, .ref q8, .ref q9, .ref q10, .ref q11, .int 0, .ref q12, .ref q13, .ref q14, .int 0, .long 0, .long 0, .int 0, .int 0])), (q24, .inl (cA30, 16385, .inl g_q24))] [(cA30, .int)] (fun r w ty => r = .inl none ∧ w = [(q20, .inr (3, [.ref q3, .ref q19, .ref q21, .ref q67, .ref q69, .int 0, .int 0, .int 0, .int 0, .int 0, .int 0, .ref q24, .ref q25, .ref q26, .ref q27, .ref q28, .ref q29, .int 0])), (q67, .inr (6, [.ref q68, .ref q69, .ref q70, .int 0, .ref q71, .ref q72, .int 0, .int 0, .ref q73, .ref q74, .ref q75, .int 0, .ref q76, .ref q77, .ref q78, .int 0, .ref q79, .int 0, .ref q80, .ref q81])), (q3, .inr (1, [.ref tx, .int 0, .ref q4, .ref q5, .ref q6, .int (0 + 1), .ref q7, .ref q8, .ref q9, .ref q10, .ref q11, .int 0, .ref q12, .ref q13, .ref q14, .int 0, .long 0, .long 0, .int 0, .int 0])), (q24, .inl (cA30, 16385, .inl g_q24))] ∧ ty = [(cA30, .int)]) := by
  refine q_ofW (by decide) ?_
  intro p e s m below meth c C hr hin hex I
  have hx := C.1
  have hb := C.2.1
  have hl := lv_entry ([.ref q20, .ref q67]) (n := 2) (Nat.le_of_ble_eq_true rfl)
  rw [lg_entry_eq]
  generalize (lg_sl ([.ref q20, .ref q67]) ++ List.replicate (2 - (lg_sl ([.ref q20, .ref q67])).length) Slot.unset).toArray = ls at hl ⊢
  have hl : lv_has ls 2 [(0, .ref q20), (1, .ref q67)] := hl
  refine lv_aload_n hx hb d23_Mak_open_0 rfl (lv_at hl 0 rfl) ?_
  refine lv_aload_n hx hb d23_Mak_open_1 rfl (lv_at hl 1 rfl) ?_
  refine q_put t_Mak t_Mak_ok n_Mak C I 0 3 rfl rfl i_Mak (by decide) m23_48 rfl rfl rfl (Nat.le_of_ble_eq_true rfl) d23_Mak_open_2 (fun H locs I => ?_)
  have I : q_I D q_cl _ s [(q20, .inr (3, [.ref q3, .ref q19, .ref q21, .ref q67, .null, .int 0, .int 0, .int 0, .int 0, .int 0, .int 0, .ref q24, .ref q25, .ref q26, .ref q27, .ref q28, .ref q29, .int 0])), (q67, .inr (6, [.ref q68, .ref q69, .ref q70, .int 0, .ref q71, .ref q72, .int 0, .int 0, .ref q73, .ref q74, .ref q75, .int 0, .ref q76, .ref q77, .ref q78, .int 0, .ref q79, .int 0, .ref q80, .ref q81])), (q3, .inr (1, [.ref tx, .int 0, .ref q4, .ref q5, .ref q6, .int (0 + 1), .ref q7, .ref q8, .ref q9, .ref q10, .ref q11, .int 0, .ref q12, .ref q13, .ref q14, .int 0, .long 0, .long 0, .int 0, .int 0])), (q24, .inl (cA30, 16385, .inl g_q24))] [(cA30, .int)] H _ := I
  refine lv_aload_n hx hb d23_Mak_open_5 rfl (lv_at hl 0 rfl) ?_
  refine lv_aload_n hx hb d23_Mak_open_6 rfl (lv_at hl 1 rfl) ?_
  refine q_get C I 1 1 rfl rfl i_Cir (by decide) m23_49 rfl d23_Mak_open_7 ?_
  refine q_put t_Mak t_Mak_ok n_Mak C I 0 4 rfl rfl i_Mak (by decide) m23_50 rfl rfl rfl (Nat.le_of_ble_eq_true rfl) d23_Mak_open_10 (fun H locs I => ?_)
  have I : q_I D q_cl _ s [(q20, .inr (3, [.ref q3, .ref q19, .ref q21, .ref q67, .ref q69, .int 0, .int 0, .int 0, .int 0, .int 0, .int 0, .ref q24, .ref q25, .ref q26, .ref q27, .ref q28, .ref q29, .int 0])), (q67, .inr (6, [.ref q68, .ref q69, .ref q70, .int 0, .ref q71, .ref q72, .int 0, .int 0, .ref q73, .ref q74, .ref q75, .int 0, .ref q76, .ref q77, .ref q78, .int 0, .ref q79, .int 0, .ref q80, .ref q81])), (q3, .inr (1, [.ref tx, .int 0, .ref q4, .ref q5, .ref q6, .int (0 + 1), .ref q7, .ref q8, .ref q9, .ref q10, .ref q11, .int 0, .ref q12, .ref q13, .ref q14, .int 0, .long 0, .long 0, .int 0, .int 0])), (q24, .inl (cA30, 16385, .inl g_q24))] [(cA30, .int)] H _ := I
  refine lv_aload_n hx hb d23_Mak_open_13 rfl (lv_at hl 0 rfl) ?_
  refine lv_iconst (v := 0) hx hb d23_Mak_open_14 (by decide) ?_
  refine q_put t_Mak t_Mak_ok n_Mak C I 0 5 rfl rfl i_Mak (by decide) m23_51 rfl rfl rfl (Nat.le_of_ble_eq_true rfl) d23_Mak_open_15 (fun H locs I => ?_)
  have I : q_I D q_cl _ s [(q20, .inr (3, [.ref q3, .ref q19, .ref q21, .ref q67, .ref q69, .int 0, .int 0, .int 0, .int 0, .int 0, .int 0, .ref q24, .ref q25, .ref q26, .ref q27, .ref q28, .ref q29, .int 0])), (q67, .inr (6, [.ref q68, .ref q69, .ref q70, .int 0, .ref q71, .ref q72, .int 0, .int 0, .ref q73, .ref q74, .ref q75, .int 0, .ref q76, .ref q77, .ref q78, .int 0, .ref q79, .int 0, .ref q80, .ref q81])), (q3, .inr (1, [.ref tx, .int 0, .ref q4, .ref q5, .ref q6, .int (0 + 1), .ref q7, .ref q8, .ref q9, .ref q10, .ref q11, .int 0, .ref q12, .ref q13, .ref q14, .int 0, .long 0, .long 0, .int 0, .int 0])), (q24, .inl (cA30, 16385, .inl g_q24))] [(cA30, .int)] H _ := I
  refine lv_aload_n hx hb d23_Mak_open_18 rfl (lv_at hl 0 rfl) ?_
  refine lv_iconst (v := 0) hx hb d23_Mak_open_19 (by decide) ?_
  refine q_put t_Mak t_Mak_ok n_Mak C I 0 17 rfl rfl i_Mak (by decide) m23_52 rfl rfl rfl (Nat.le_of_ble_eq_true rfl) d23_Mak_open_20 (fun H locs I => ?_)
  have I : q_I D q_cl _ s [(q20, .inr (3, [.ref q3, .ref q19, .ref q21, .ref q67, .ref q69, .int 0, .int 0, .int 0, .int 0, .int 0, .int 0, .ref q24, .ref q25, .ref q26, .ref q27, .ref q28, .ref q29, .int 0])), (q67, .inr (6, [.ref q68, .ref q69, .ref q70, .int 0, .ref q71, .ref q72, .int 0, .int 0, .ref q73, .ref q74, .ref q75, .int 0, .ref q76, .ref q77, .ref q78, .int 0, .ref q79, .int 0, .ref q80, .ref q81])), (q3, .inr (1, [.ref tx, .int 0, .ref q4, .ref q5, .ref q6, .int (0 + 1), .ref q7, .ref q8, .ref q9, .ref q10, .ref q11, .int 0, .ref q12, .ref q13, .ref q14, .int 0, .long 0, .long 0, .int 0, .int 0])), (q24, .inl (cA30, 16385, .inl g_q24))] [(cA30, .int)] H _ := I
  refine lv_aload_n hx hb d23_Mak_open_23 rfl (lv_at hl 0 rfl) ?_
  refine q_get C I 0 11 rfl rfl i_Mak (by decide) m23_53 rfl d23_Mak_open_24 ?_
  refine lv_iconst (v := 0) hx hb d23_Mak_open_27 (by decide) ?_
  refine lv_aload_n hx hb d23_Mak_open_28 rfl (lv_at hl 0 rfl) ?_
  refine q_get C I 0 0 rfl rfl i_Mak (by decide) m23_54 rfl d23_Mak_open_29 ?_
  refine q_get C I 2 11 rfl rfl i_Tok (by decide) m23_55 rfl d23_Mak_open_32 ?_
  refine lv_iconst (v := -1) hx hb d23_Mak_open_35 (by decide) ?_
  refine q_go (wr := [(q20, .inr (3, [.ref q3, .ref q19, .ref q21, .ref q67, .ref q69, .int 0, .int 0, .int 0, .int 0, .int 0, .int 0, .ref q24, .ref q25, .ref q26, .ref q27, .ref q28, .ref q29, .int 0])), (q67, .inr (6, [.ref q68, .ref q69, .ref q70, .int 0, .ref q71, .ref q72, .int 0, .int 0, .ref q73, .ref q74, .ref q75, .int 0, .ref q76, .ref q77, .ref q78, .int 0, .ref q79, .int 0, .ref q80, .ref q81])), (q3, .inr (1, [.ref tx, .int 0, .ref q4, .ref q5, .ref q6, .int (0 + 1), .ref q7, .ref q8, .ref q9, .ref q10, .ref q11, .int 0, .ref q12, .ref q13, .ref q14, .int 0, .long 0, .long 0, .int 0, .int 0]))]) (tyr := []) C I (q_siteS (As := [.ref q24, .int 0, .int 0, .int (-1)]) (rest := []) C m23_56 m23_58 m23_38 m23_57 ⟨by decide, by decide⟩ (Eq.trans (b := some 4) (by decide +kernel) rfl) rfl d23_Mak_open_36) (c_java_util_Arrays_fill_IIIIV l D q24 (-1) cA30 g_q24) m23_57 m23_38 [3] [0, 1, 2] [0] [] rfl rfl (by decide) (by decide) (by decide) rfl rfl hl.1 d23_Mak_open_36 (Nat.le_of_ble_eq_true rfl) (Nat.le_of_ble_eq_true rfl) (Nat.le_of_ble_eq_true rfl) (Nat.le_of_ble_eq_true rfl) (fun v w ty H locs hp I => ?_) (fun E w ty H locs q ce hp _ _ _ _ => ?_)
  rotate_left
  · obtain ⟨hv, -⟩ := hp; cases hv
  obtain ⟨hv, rfl, rfl⟩ := hp
  cases hv
  have I : q_I D q_cl _ s [(q20, .inr (3, [.ref q3, .ref q19, .ref q21, .ref q67, .ref q69, .int 0, .int 0, .int 0, .int 0, .int 0, .int 0, .ref q24, .ref q25, .ref q26, .ref q27, .ref q28, .ref q29, .int 0])), (q67, .inr (6, [.ref q68, .ref q69, .ref q70, .int 0, .ref q71, .ref q72, .int 0, .int 0, .ref q73, .ref q74, .ref q75, .int 0, .ref q76, .ref q77, .ref q78, .int 0, .ref q79, .int 0, .ref q80, .ref q81])), (q3, .inr (1, [.ref tx, .int 0, .ref q4, .ref q5, .ref q6, .int (0 + 1), .ref q7, .ref q8, .ref q9, .ref q10, .ref q11, .int 0, .ref q12, .ref q13, .ref q14, .int 0, .long 0, .long 0, .int 0, .int 0])), (q24, .inl (cA30, 16385, .inl g_q24))] [(cA30, .int)] H _ := I
  refine W.eq (g2 := F0 m 39 ls []) rfl ?_
  exact q_vret C hr I ⟨rfl, rfl, rfl⟩ (Nat.le_of_ble_eq_true rfl) (Nat.le_of_ble_eq_true rfl) d23_Mak_open_39
set_option maxHeartbeats 4000000 in
set_option maxRecDepth 100000 in
/-- Maker.turn(false) -/
theorem c_Mak_turn (l : Launch) (D : va_G) (q20 : Nat) (q3 : Nat) (q19 : Nat) (q21 : Nat) (mc : Nat) (md : Nat) (q24 : Nat) (q25 : Nat) (q26 : Nat) (q27 : Nat) (q28 : Nat) (q29 : Nat) : q_Met l ⟨"SignalTheatre$Maker", "turn", "(Z)V"⟩ (Cond.code ⟨"SignalTheatre$Maker", "turn", "(Z)V"⟩ prog_8_method_3_code 2 none) { frames := 0, cells := 0, slots := 0, locals := 0 } D q_cl [.ref q20, .int 0] [(q20, .inr (3, [.ref q3, .ref q19, .ref q21, .ref mc, .ref md, .int 0, .int 0, .int 0, .int 0, .int 0, .int 0, .ref q24, .ref q25, .ref q26, .ref q27, .ref q28, .ref q29, .int 0])), (q19, .inr (2, [.ref q3, .int 0, .int (-1), .int 0, .int 0, .int 0, .int 0]))] [] (fun r w ty => r = .inl none ∧ w = [(q20, .inr (3, [.ref q3, .ref q19, .ref q21, .ref mc, .ref md, .int 0, .int 0, .int 0, .int 0, .int 0, .int 0, .ref q24, .ref q25, .ref q26, .ref q27, .ref q28, .ref q29, .int 0])), (q19, .inr (2, [.ref q3, .int 0, .int (-1), .int 0, .int 0, .int 0, .int 0]))] ∧ ty = []) := by
  refine q_ofW (by decide) ?_
  intro p e s m below meth c C hr hin hex I
  have hx := C.1
  have hb := C.2.1
  have hl := lv_entry ([.ref q20, .int 0]) (n := 2) (Nat.le_of_ble_eq_true rfl)
  rw [lg_entry_eq]
  generalize (lg_sl ([.ref q20, .int 0]) ++ List.replicate (2 - (lg_sl ([.ref q20, .int 0])).length) Slot.unset).toArray = ls at hl ⊢
  have hl : lv_has ls 2 [(0, .ref q20), (1, .int 0)] := hl
  refine lv_aload_n hx hb d23_Mak_turn_0 rfl (lv_at hl 0 rfl) ?_
  refine lv_iload_n hx hb d23_Mak_turn_1 rfl (lv_at hl 1 rfl) ?_
  refine q_put t_Mak t_Mak_ok n_Mak C I 0 6 rfl rfl i_Mak (by decide) m23_59 rfl rfl rfl (Nat.le_of_ble_eq_true rfl) d23_Mak_turn_2 (fun H locs I => ?_)
  have I : q_I D q_cl _ s [(q20, .inr (3, [.ref q3, .ref q19, .ref q21, .ref mc, .ref md, .int 0, .int 0, .int 0, .int 0, .int 0, .int 0, .ref q24, .ref q25, .ref q26, .ref q27, .ref q28, .ref q29, .int 0])), (q19, .inr (2, [.ref q3, .int 0, .int (-1), .int 0, .int 0, .int 0, .int 0]))] [] H _ := I
  refine lv_aload_n hx hb d23_Mak_turn_5 rfl (lv_at hl 0 rfl) ?_
  refine q_get C I 0 1 rfl rfl i_Mak (by decide) m23_60 rfl d23_Mak_turn_6 ?_
  refine lv_iload_n hx hb d23_Mak_turn_9 rfl (lv_at hl 1 rfl) ?_
  refine q_put t_Flt t_Flt_ok n_Flt C I 1 6 rfl rfl i_Flt (by decide) m23_61 rfl rfl rfl (Nat.le_of_ble_eq_true rfl) d23_Mak_turn_10 (fun H locs I => ?_)
  have I : q_I D q_cl _ s [(q20, .inr (3, [.ref q3, .ref q19, .ref q21, .ref mc, .ref md, .int 0, .int 0, .int 0, .int 0, .int 0, .int 0, .ref q24, .ref q25, .ref q26, .ref q27, .ref q28, .ref q29, .int 0])), (q19, .inr (2, [.ref q3, .int 0, .int (-1), .int 0, .int 0, .int 0, .int 0]))] [] H _ := I
  exact q_vret C hr I ⟨rfl, rfl, rfl⟩ (Nat.le_of_ble_eq_true rfl) (Nat.le_of_ble_eq_true rfl) d23_Mak_turn_13
set_option maxHeartbeats 4000000 in
set_option maxRecDepth 100000 in
/-- Reader.begin() -/
theorem c_Rea_begin (l : Launch) (D : va_G) (q31 : Nat) (q3 : Nat) (q19 : Nat) (q20 : Nat) (q32 : Nat) : q_Met l ⟨"SignalTheatre$Reader", "begin", "()V"⟩ (Cond.code ⟨"SignalTheatre$Reader", "begin", "()V"⟩ prog_9_method_2_code 1 none) { frames := 0, cells := 0, slots := 0, locals := 0 } D q_cl [.ref q31] [(q31, .inr (5, [.ref q3, .ref q19, .ref q20, .ref q32, .int 0, .int 0, .int 0, .long 0, .long 0]))] [] (fun r w ty => r = .inl none ∧ w = [(q31, .inr (5, [.ref q3, .ref q19, .ref q20, .ref q32, .int 0, .int 0, .int 0, .long 0, .long 0]))] ∧ ty = []) := by
  refine q_ofW (by decide) ?_
  intro p e s m below meth c C hr hin hex I
  have hx := C.1
  have hb := C.2.1
  have hl := lv_entry ([.ref q31]) (n := 1) (Nat.le_of_ble_eq_true rfl)
  rw [lg_entry_eq]
  generalize (lg_sl ([.ref q31]) ++ List.replicate (1 - (lg_sl ([.ref q31])).length) Slot.unset).toArray = ls at hl ⊢
  have hl : lv_has ls 1 [(0, .ref q31)] := hl
  refine lv_aload_n hx hb d23_Rea_begin_0 rfl (lv_at hl 0 rfl) ?_
  refine lv_iconst (v := 0) hx hb d23_Rea_begin_1 (by decide) ?_
  refine q_put t_Rea t_Rea_ok n_Rea C I 0 5 rfl rfl i_Rea (by decide) m23_62 rfl rfl rfl (Nat.le_of_ble_eq_true rfl) d23_Rea_begin_2 (fun H locs I => ?_)
  have I : q_I D q_cl _ s [(q31, .inr (5, [.ref q3, .ref q19, .ref q20, .ref q32, .int 0, .int 0, .int 0, .long 0, .long 0]))] [] H _ := I
  refine lv_aload_n hx hb d23_Rea_begin_5 rfl (lv_at hl 0 rfl) ?_
  refine lv_iconst (v := 0) hx hb d23_Rea_begin_6 (by decide) ?_
  refine q_put t_Rea t_Rea_ok n_Rea C I 0 6 rfl rfl i_Rea (by decide) m23_63 rfl rfl rfl (Nat.le_of_ble_eq_true rfl) d23_Rea_begin_7 (fun H locs I => ?_)
  have I : q_I D q_cl _ s [(q31, .inr (5, [.ref q3, .ref q19, .ref q20, .ref q32, .int 0, .int 0, .int 0, .long 0, .long 0]))] [] H _ := I
  refine lv_aload_n hx hb d23_Rea_begin_10 rfl (lv_at hl 0 rfl) ?_
  refine lv_iconst (v := 0) hx hb d23_Rea_begin_11 (by decide) ?_
  refine q_put t_Rea t_Rea_ok n_Rea C I 0 4 rfl rfl i_Rea (by decide) m23_64 rfl rfl rfl (Nat.le_of_ble_eq_true rfl) d23_Rea_begin_12 (fun H locs I => ?_)
  have I : q_I D q_cl _ s [(q31, .inr (5, [.ref q3, .ref q19, .ref q20, .ref q32, .int 0, .int 0, .int 0, .long 0, .long 0]))] [] H _ := I
  exact q_vret C hr I ⟨rfl, rfl, rfl⟩ (Nat.le_of_ble_eq_true rfl) (Nat.le_of_ble_eq_true rfl) d23_Rea_begin_15
