set_option maxRecDepth 20000 in
theorem m11_0 : (Cond.fieldLink "SignalTheatre$Circuit" 25 "SignalTheatre$Circuit" "signals" "[LSignalTheatre$Signal;" : Cond) ∈ q_big := q_m3 (List.mem_of_getElem? (i := 28) rfl) rfl
set_option maxRecDepth 20000 in
theorem m11_1 : (Cond.classLink "SignalTheatre$Circuit" 23 "SignalTheatre$Signal" : Cond) ∈ q_big := q_m2 (List.mem_of_getElem? (i := 181) rfl) rfl
set_option maxRecDepth 20000 in
theorem m11_2 : (Cond.instantiable "SignalTheatre$Signal" 13 : Cond) ∈ q_big := q_m2 (List.mem_of_getElem? (i := 183) rfl) rfl
set_option maxRecDepth 20000 in
theorem m11_3 : (Cond.initialized "SignalTheatre$Signal" : Cond) ∈ q_big := q_m1 (List.mem_of_getElem? (i := 9) rfl) rfl
set_option maxRecDepth 20000 in
theorem m11_4 : (Cond.methodLinkNest "SignalTheatre$Circuit" 64 ⟨"SignalTheatre$Signal", "<init>", "()V"⟩ "SignalTheatre" : Cond) ∈ q_nest := q_n2 (List.mem_of_getElem? (i := 184) rfl) rfl
set_option maxRecDepth 20000 in
theorem m11_5 : (Cond.instanceMethod ⟨"SignalTheatre$Signal", "<init>", "()V"⟩ : Cond) ∈ q_big := q_m2 (List.mem_of_getElem? (i := 185) rfl) rfl
set_option maxRecDepth 20000 in
theorem m11_6 : (Cond.code ⟨"SignalTheatre$Signal", "<init>", "()V"⟩ prog_10_method_1_code 1 none : Cond) ∈ q_big := q_m2 (List.mem_of_getElem? (i := 186) rfl) rfl
set_option maxRecDepth 20000 in
theorem m11_7 : (Cond.methodLink "SignalTheatre$Circuit" 3 ⟨"java/lang/Object", "<init>", "()V"⟩ : Cond) ∈ q_big := q_m2 (List.mem_of_getElem? (i := 74) rfl) rfl
set_option maxRecDepth 20000 in
theorem m11_8 : (Cond.instanceMethod ⟨"java/lang/Object", "<init>", "()V"⟩ : Cond) ∈ q_big := q_m1 (List.mem_of_getElem? (i := 47) rfl) rfl
set_option maxRecDepth 20000 in
theorem m11_9 : (Cond.code ⟨"java/lang/Object", "<init>", "()V"⟩ object_method_1_code 1 none : Cond) ∈ q_big := q_m1 (List.mem_of_getElem? (i := 48) rfl) rfl
set_option maxRecDepth 20000 in
theorem m11_10 : (Cond.constant "SignalTheatre$Circuit" 9 (32768) : Cond) ∈ q_big := q_m2 (List.mem_of_getElem? (i := 75) rfl) rfl
set_option maxRecDepth 20000 in
theorem m11_11 : (Cond.arrayClass FieldType.byte : Cond) ∈ q_big := q_m1 (List.mem_of_getElem? (i := 135) rfl) rfl
set_option maxRecDepth 20000 in
theorem m11_12 : (Cond.fieldLink "SignalTheatre$Circuit" 10 "SignalTheatre$Circuit" "text" "[B" : Cond) ∈ q_big := q_m3 (List.mem_of_getElem? (i := 20) rfl) rfl
set_option maxRecDepth 20000 in
theorem m11_13 : (Cond.classLink "SignalTheatre$Circuit" 16 "SignalTheatre$Code" : Cond) ∈ q_big := q_m2 (List.mem_of_getElem? (i := 76) rfl) rfl
set_option maxRecDepth 20000 in
theorem m11_14 : (Cond.instantiable "SignalTheatre$Code" 20 : Cond) ∈ q_big := q_m2 (List.mem_of_getElem? (i := 77) rfl) rfl
set_option maxRecDepth 20000 in
theorem m11_15 : (Cond.initialized "SignalTheatre$Code" : Cond) ∈ q_big := q_m1 (List.mem_of_getElem? (i := 8) rfl) rfl
set_option maxRecDepth 20000 in
theorem m11_16 : (Cond.methodLinkNest "SignalTheatre$Circuit" 18 ⟨"SignalTheatre$Code", "<init>", "()V"⟩ "SignalTheatre" : Cond) ∈ q_nest := q_n2 (List.mem_of_getElem? (i := 78) rfl) rfl
set_option maxRecDepth 20000 in
theorem m11_17 : (Cond.code ⟨"SignalTheatre$Code", "<init>", "()V"⟩ prog_6_method_1_code 1 none : Cond) ∈ q_big := q_m2 (List.mem_of_getElem? (i := 80) rfl) rfl
set_option maxRecDepth 20000 in
theorem m11_18 : (Cond.instanceMethod ⟨"SignalTheatre$Code", "<init>", "()V"⟩ : Cond) ∈ q_big := q_m2 (List.mem_of_getElem? (i := 79) rfl) rfl
set_option maxRecDepth 20000 in
theorem m11_19 : (Cond.fieldLink "SignalTheatre$Circuit" 19 "SignalTheatre$Circuit" "code" "LSignalTheatre$Code;" : Cond) ∈ q_big := q_m3 (List.mem_of_getElem? (i := 23) rfl) rfl
set_option maxRecDepth 20000 in
theorem m11_20 : (Cond.arrayOver (FieldType.object "SignalTheatre$Signal") : Cond) ∈ q_nest := q_n2 (List.mem_of_getElem? (i := 182) rfl) rfl
set_option maxRecDepth 20000 in
theorem m11_21 : (Cond.fieldLink "SignalTheatre$Circuit" 29 "SignalTheatre$Circuit" "ones" "[J" : Cond) ∈ q_big := q_m3 (List.mem_of_getElem? (i := 38) rfl) rfl
set_option maxRecDepth 20000 in
theorem m11_22 : (Cond.arrayClass FieldType.long : Cond) ∈ q_big := q_m1 (List.mem_of_getElem? (i := 137) rfl) rfl
set_option maxRecDepth 20000 in
theorem m11_23 : (Cond.fieldLink "SignalTheatre$Circuit" 33 "SignalTheatre$Circuit" "unknown" "[J" : Cond) ∈ q_big := q_m3 (List.mem_of_getElem? (i := 42) rfl) rfl
set_option maxRecDepth 20000 in
theorem m11_24 : (Cond.fieldLink "SignalTheatre$Circuit" 36 "SignalTheatre$Circuit" "scopeAbove" "[I" : Cond) ∈ q_big := q_m3 (List.mem_of_getElem? (i := 49) rfl) rfl
set_option maxRecDepth 20000 in
theorem m11_25 : (Cond.arrayClass FieldType.int : Cond) ∈ q_big := q_m1 (List.mem_of_getElem? (i := 136) rfl) rfl
set_option maxRecDepth 20000 in
theorem m11_26 : (Cond.fieldLink "SignalTheatre$Circuit" 40 "SignalTheatre$Circuit" "scopePlace" "[I" : Cond) ∈ q_big := q_m3 (List.mem_of_getElem? (i := 50) rfl) rfl
set_option maxRecDepth 20000 in
theorem m11_27 : (Cond.fieldLink "SignalTheatre$Circuit" 43 "SignalTheatre$Circuit" "scopeBytes" "[I" : Cond) ∈ q_big := q_m3 (List.mem_of_getElem? (i := 51) rfl) rfl
set_option maxRecDepth 20000 in
theorem m11_28 : (Cond.fieldLink "SignalTheatre$Circuit" 46 "SignalTheatre$Circuit" "assignRoot" "[I" : Cond) ∈ q_big := q_m3 (List.mem_of_getElem? (i := 53) rfl) rfl
set_option maxRecDepth 20000 in
theorem m11_29 : (Cond.fieldLink "SignalTheatre$Circuit" 49 "SignalTheatre$Circuit" "assignFrom" "[I" : Cond) ∈ q_big := q_m3 (List.mem_of_getElem? (i := 55) rfl) rfl
set_option maxRecDepth 20000 in
theorem m11_30 : (Cond.fieldLink "SignalTheatre$Circuit" 52 "SignalTheatre$Circuit" "assignTo" "[I" : Cond) ∈ q_big := q_m3 (List.mem_of_getElem? (i := 57) rfl) rfl
set_option maxRecDepth 20000 in
theorem m11_31 : (Cond.fieldLink "SignalTheatre$Circuit" 55 "SignalTheatre$Circuit" "processStart" "[I" : Cond) ∈ q_big := q_m3 (List.mem_of_getElem? (i := 62) rfl) rfl
set_option maxRecDepth 20000 in
theorem m11_32 : (Cond.fieldLink "SignalTheatre$Circuit" 58 "SignalTheatre$Circuit" "order" "[I" : Cond) ∈ q_big := q_m3 (List.mem_of_getElem? (i := 67) rfl) rfl
set_option maxRecDepth 20000 in
theorem m11_33 : (Cond.fieldLink "SignalTheatre$Circuit" 61 "SignalTheatre$Circuit" "readers" "[J" : Cond) ∈ q_big := q_m3 (List.mem_of_getElem? (i := 69) rfl) rfl
set_option maxRecDepth 20000 in
theorem m11_34 : (Cond.methodLink "SignalTheatre$Builder" 3 ⟨"java/lang/Object", "<init>", "()V"⟩ : Cond) ∈ q_big := q_m3 (List.mem_of_getElem? (i := 117) rfl) rfl
set_option maxRecDepth 20000 in
theorem m11_35 : (Cond.classLink "SignalTheatre$Builder" 9 "SignalTheatre$Signal" : Cond) ∈ q_big := q_m3 (List.mem_of_getElem? (i := 118) rfl) rfl
set_option maxRecDepth 20000 in
theorem m11_36 : (Cond.methodLinkNest "SignalTheatre$Builder" 11 ⟨"SignalTheatre$Signal", "<init>", "()V"⟩ "SignalTheatre" : Cond) ∈ q_nest := q_n3 (List.mem_of_getElem? (i := 119) rfl) rfl
set_option maxRecDepth 20000 in
theorem m11_37 : (Cond.fieldLink "SignalTheatre$Builder" 12 "SignalTheatre$Builder" "mould" "LSignalTheatre$Signal;" : Cond) ∈ q_big := q_m3 (List.mem_of_getElem? (i := 125) rfl) rfl
set_option maxRecDepth 20000 in
theorem m11_38 : (Cond.fieldLink "SignalTheatre$Builder" 18 "SignalTheatre$Builder" "moduleStart" "[I" : Cond) ∈ q_big := q_m3 (List.mem_of_getElem? (i := 126) rfl) rfl
set_option maxRecDepth 20000 in
theorem m11_39 : (Cond.fieldLink "SignalTheatre$Builder" 22 "SignalTheatre$Builder" "moduleEnd" "[I" : Cond) ∈ q_big := q_m3 (List.mem_of_getElem? (i := 127) rfl) rfl
set_option maxRecDepth 20000 in
theorem m11_40 : (Cond.fieldLink "SignalTheatre$Builder" 27 "SignalTheatre$Builder" "instantiated" "[I" : Cond) ∈ q_big := q_m3 (List.mem_of_getElem? (i := 129) rfl) rfl
set_option maxRecDepth 20000 in
theorem m11_41 : (Cond.fieldLink "SignalTheatre$Builder" 30 "SignalTheatre$Builder" "backTo" "[I" : Cond) ∈ q_big := q_m3 (List.mem_of_getElem? (i := 132) rfl) rfl
set_option maxRecDepth 20000 in
theorem m11_42 : (Cond.fieldLink "SignalTheatre$Builder" 33 "SignalTheatre$Builder" "scopeOutside" "[I" : Cond) ∈ q_big := q_m3 (List.mem_of_getElem? (i := 133) rfl) rfl
set_option maxRecDepth 20000 in
theorem m11_43 : (Cond.fieldLink "SignalTheatre$Builder" 36 "SignalTheatre$Builder" "symbolsOutside" "[I" : Cond) ∈ q_big := q_m3 (List.mem_of_getElem? (i := 134) rfl) rfl
set_option maxRecDepth 20000 in
theorem m11_44 : (Cond.fieldLink "SignalTheatre$Builder" 39 "SignalTheatre$Builder" "tokens" "LSignalTheatre$Tokens;" : Cond) ∈ q_big := q_m3 (List.mem_of_getElem? (i := 120) rfl) rfl
set_option maxRecDepth 20000 in
theorem m11_45 : (Cond.fieldLink "SignalTheatre$Builder" 43 "SignalTheatre$Builder" "faults" "LSignalTheatre$Faults;" : Cond) ∈ q_big := q_m3 (List.mem_of_getElem? (i := 121) rfl) rfl
set_option maxRecDepth 20000 in
theorem m11_46 : (Cond.fieldLink "SignalTheatre$Builder" 47 "SignalTheatre$Builder" "maker" "LSignalTheatre$Maker;" : Cond) ∈ q_big := q_m3 (List.mem_of_getElem? (i := 122) rfl) rfl
set_option maxRecDepth 20000 in
theorem m11_47 : (Cond.fieldLink "SignalTheatre$Builder" 51 "SignalTheatre$Builder" "reader" "LSignalTheatre$Reader;" : Cond) ∈ q_big := q_m3 (List.mem_of_getElem? (i := 123) rfl) rfl
theorem d11_Cir_init_131 : decode prog_5_method_1_code 131 = .ok (.iload_n 1, 1) := by decide +kernel
theorem d11_Cir_init_132 : decode prog_5_method_1_code 132 = .ok (.sipush 400, 3) := by decide +kernel
theorem d11_Cir_init_135 : decode prog_5_method_1_code 135 = .ok (.if_icmp .ge 22, 3) := by decide +kernel
theorem d11_Cir_init_138 : decode prog_5_method_1_code 138 = .ok (.aload_n 0, 1) := by decide +kernel
theorem d11_Cir_init_139 : decode prog_5_method_1_code 139 = .ok (.getfield 25, 3) := by decide +kernel
theorem d11_Cir_init_142 : decode prog_5_method_1_code 142 = .ok (.iload_n 1, 1) := by decide +kernel
theorem d11_Cir_init_143 : decode prog_5_method_1_code 143 = .ok (.new 23, 3) := by decide +kernel
theorem d11_Cir_init_146 : decode prog_5_method_1_code 146 = .ok (.dup, 1) := by decide +kernel
theorem d11_Cir_init_147 : decode prog_5_method_1_code 147 = .ok (.invokespecial 64, 3) := by decide +kernel
theorem d11_Cir_init_150 : decode prog_5_method_1_code 150 = .ok (.aastore, 1) := by decide +kernel
theorem d11_Cir_init_151 : decode prog_5_method_1_code 151 = .ok (.iinc 1 1, 3) := by decide +kernel
theorem d11_Cir_init_154 : decode prog_5_method_1_code 154 = .ok (.goto (-23), 3) := by decide +kernel
theorem d11_Cir_init_0 : decode prog_5_method_1_code 0 = .ok (.aload_n 0, 1) := by decide +kernel
theorem d11_Cir_init_1 : decode prog_5_method_1_code 1 = .ok (.invokespecial 3, 3) := by decide +kernel
theorem d11_Cir_init_4 : decode prog_5_method_1_code 4 = .ok (.aload_n 0, 1) := by decide +kernel
theorem d11_Cir_init_5 : decode prog_5_method_1_code 5 = .ok (.ldc 9, 2) := by decide +kernel
theorem d11_Cir_init_7 : decode prog_5_method_1_code 7 = .ok (.newarray .byte, 2) := by decide +kernel
theorem d11_Cir_init_9 : decode prog_5_method_1_code 9 = .ok (.putfield 10, 3) := by decide +kernel
theorem d11_Cir_init_12 : decode prog_5_method_1_code 12 = .ok (.aload_n 0, 1) := by decide +kernel
theorem d11_Cir_init_13 : decode prog_5_method_1_code 13 = .ok (.new 16, 3) := by decide +kernel
theorem d11_Cir_init_16 : decode prog_5_method_1_code 16 = .ok (.dup, 1) := by decide +kernel
theorem d11_Cir_init_17 : decode prog_5_method_1_code 17 = .ok (.invokespecial 18, 3) := by decide +kernel
theorem d11_Cir_init_20 : decode prog_5_method_1_code 20 = .ok (.putfield 19, 3) := by decide +kernel
theorem d11_Cir_init_23 : decode prog_5_method_1_code 23 = .ok (.aload_n 0, 1) := by decide +kernel
theorem d11_Cir_init_24 : decode prog_5_method_1_code 24 = .ok (.sipush 400, 3) := by decide +kernel
theorem d11_Cir_init_27 : decode prog_5_method_1_code 27 = .ok (.anewarray 23, 3) := by decide +kernel
theorem d11_Cir_init_30 : decode prog_5_method_1_code 30 = .ok (.putfield 25, 3) := by decide +kernel
theorem d11_Cir_init_33 : decode prog_5_method_1_code 33 = .ok (.aload_n 0, 1) := by decide +kernel
theorem d11_Cir_init_34 : decode prog_5_method_1_code 34 = .ok (.sipush 8592, 3) := by decide +kernel
theorem d11_Cir_init_37 : decode prog_5_method_1_code 37 = .ok (.newarray .long, 2) := by decide +kernel
theorem d11_Cir_init_39 : decode prog_5_method_1_code 39 = .ok (.putfield 29, 3) := by decide +kernel
theorem d11_Cir_init_42 : decode prog_5_method_1_code 42 = .ok (.aload_n 0, 1) := by decide +kernel
theorem d11_Cir_init_43 : decode prog_5_method_1_code 43 = .ok (.sipush 8592, 3) := by decide +kernel
theorem d11_Cir_init_46 : decode prog_5_method_1_code 46 = .ok (.newarray .long, 2) := by decide +kernel
theorem d11_Cir_init_48 : decode prog_5_method_1_code 48 = .ok (.putfield 33, 3) := by decide +kernel
theorem d11_Cir_init_51 : decode prog_5_method_1_code 51 = .ok (.aload_n 0, 1) := by decide +kernel
theorem d11_Cir_init_52 : decode prog_5_method_1_code 52 = .ok (.bipush 101, 2) := by decide +kernel
theorem d11_Cir_init_54 : decode prog_5_method_1_code 54 = .ok (.newarray .int, 2) := by decide +kernel
theorem d11_Cir_init_56 : decode prog_5_method_1_code 56 = .ok (.putfield 36, 3) := by decide +kernel
theorem d11_Cir_init_59 : decode prog_5_method_1_code 59 = .ok (.aload_n 0, 1) := by decide +kernel
theorem d11_Cir_init_60 : decode prog_5_method_1_code 60 = .ok (.bipush 101, 2) := by decide +kernel
theorem d11_Cir_init_62 : decode prog_5_method_1_code 62 = .ok (.newarray .int, 2) := by decide +kernel
theorem d11_Cir_init_64 : decode prog_5_method_1_code 64 = .ok (.putfield 40, 3) := by decide +kernel
theorem d11_Cir_init_67 : decode prog_5_method_1_code 67 = .ok (.aload_n 0, 1) := by decide +kernel
theorem d11_Cir_init_68 : decode prog_5_method_1_code 68 = .ok (.bipush 101, 2) := by decide +kernel
theorem d11_Cir_init_70 : decode prog_5_method_1_code 70 = .ok (.newarray .int, 2) := by decide +kernel
theorem d11_Cir_init_72 : decode prog_5_method_1_code 72 = .ok (.putfield 43, 3) := by decide +kernel
theorem d11_Cir_init_75 : decode prog_5_method_1_code 75 = .ok (.aload_n 0, 1) := by decide +kernel
theorem d11_Cir_init_76 : decode prog_5_method_1_code 76 = .ok (.sipush 400, 3) := by decide +kernel
theorem d11_Cir_init_79 : decode prog_5_method_1_code 79 = .ok (.newarray .int, 2) := by decide +kernel
theorem d11_Cir_init_81 : decode prog_5_method_1_code 81 = .ok (.putfield 46, 3) := by decide +kernel
theorem d11_Cir_init_84 : decode prog_5_method_1_code 84 = .ok (.aload_n 0, 1) := by decide +kernel
theorem d11_Cir_init_85 : decode prog_5_method_1_code 85 = .ok (.sipush 400, 3) := by decide +kernel
theorem d11_Cir_init_88 : decode prog_5_method_1_code 88 = .ok (.newarray .int, 2) := by decide +kernel
theorem d11_Cir_init_90 : decode prog_5_method_1_code 90 = .ok (.putfield 49, 3) := by decide +kernel
theorem d11_Cir_init_93 : decode prog_5_method_1_code 93 = .ok (.aload_n 0, 1) := by decide +kernel
theorem d11_Cir_init_94 : decode prog_5_method_1_code 94 = .ok (.sipush 400, 3) := by decide +kernel
theorem d11_Cir_init_97 : decode prog_5_method_1_code 97 = .ok (.newarray .int, 2) := by decide +kernel
theorem d11_Cir_init_99 : decode prog_5_method_1_code 99 = .ok (.putfield 52, 3) := by decide +kernel
theorem d11_Cir_init_102 : decode prog_5_method_1_code 102 = .ok (.aload_n 0, 1) := by decide +kernel
theorem d11_Cir_init_103 : decode prog_5_method_1_code 103 = .ok (.sipush 400, 3) := by decide +kernel
theorem d11_Cir_init_106 : decode prog_5_method_1_code 106 = .ok (.newarray .int, 2) := by decide +kernel
theorem d11_Cir_init_108 : decode prog_5_method_1_code 108 = .ok (.putfield 55, 3) := by decide +kernel
theorem d11_Cir_init_111 : decode prog_5_method_1_code 111 = .ok (.aload_n 0, 1) := by decide +kernel
theorem d11_Cir_init_112 : decode prog_5_method_1_code 112 = .ok (.sipush 400, 3) := by decide +kernel
theorem d11_Cir_init_115 : decode prog_5_method_1_code 115 = .ok (.newarray .int, 2) := by decide +kernel
theorem d11_Cir_init_117 : decode prog_5_method_1_code 117 = .ok (.putfield 58, 3) := by decide +kernel
theorem d11_Cir_init_120 : decode prog_5_method_1_code 120 = .ok (.aload_n 0, 1) := by decide +kernel
theorem d11_Cir_init_121 : decode prog_5_method_1_code 121 = .ok (.sipush 2800, 3) := by decide +kernel
theorem d11_Cir_init_124 : decode prog_5_method_1_code 124 = .ok (.newarray .long, 2) := by decide +kernel
theorem d11_Cir_init_126 : decode prog_5_method_1_code 126 = .ok (.putfield 61, 3) := by decide +kernel
theorem d11_Cir_init_129 : decode prog_5_method_1_code 129 = .ok (.iconst 0, 1) := by decide +kernel
theorem d11_Cir_init_130 : decode prog_5_method_1_code 130 = .ok (.istore_n 1, 1) := by decide +kernel
theorem d11_Cir_init_157 : decode prog_5_method_1_code 157 = .ok (.return_, 1) := by decide +kernel
theorem d11_Bui_init_0 : decode prog_4_method_1_code 0 = .ok (.aload_n 0, 1) := by decide +kernel
theorem d11_Bui_init_1 : decode prog_4_method_1_code 1 = .ok (.invokespecial 3, 3) := by decide +kernel
theorem d11_Bui_init_4 : decode prog_4_method_1_code 4 = .ok (.aload_n 0, 1) := by decide +kernel
theorem d11_Bui_init_5 : decode prog_4_method_1_code 5 = .ok (.new 9, 3) := by decide +kernel
theorem d11_Bui_init_8 : decode prog_4_method_1_code 8 = .ok (.dup, 1) := by decide +kernel
theorem d11_Bui_init_9 : decode prog_4_method_1_code 9 = .ok (.invokespecial 11, 3) := by decide +kernel
theorem d11_Bui_init_12 : decode prog_4_method_1_code 12 = .ok (.putfield 12, 3) := by decide +kernel
theorem d11_Bui_init_15 : decode prog_4_method_1_code 15 = .ok (.aload_n 0, 1) := by decide +kernel
theorem d11_Bui_init_16 : decode prog_4_method_1_code 16 = .ok (.sipush 1821, 3) := by decide +kernel
theorem d11_Bui_init_19 : decode prog_4_method_1_code 19 = .ok (.newarray .int, 2) := by decide +kernel
theorem d11_Bui_init_21 : decode prog_4_method_1_code 21 = .ok (.putfield 18, 3) := by decide +kernel
theorem d11_Bui_init_24 : decode prog_4_method_1_code 24 = .ok (.aload_n 0, 1) := by decide +kernel
theorem d11_Bui_init_25 : decode prog_4_method_1_code 25 = .ok (.sipush 1821, 3) := by decide +kernel
theorem d11_Bui_init_28 : decode prog_4_method_1_code 28 = .ok (.newarray .int, 2) := by decide +kernel
theorem d11_Bui_init_30 : decode prog_4_method_1_code 30 = .ok (.putfield 22, 3) := by decide +kernel
theorem d11_Bui_init_33 : decode prog_4_method_1_code 33 = .ok (.aload_n 0, 1) := by decide +kernel
theorem d11_Bui_init_34 : decode prog_4_method_1_code 34 = .ok (.sipush 16385, 3) := by decide +kernel
theorem d11_Bui_init_37 : decode prog_4_method_1_code 37 = .ok (.newarray .int, 2) := by decide +kernel
theorem d11_Bui_init_39 : decode prog_4_method_1_code 39 = .ok (.putfield 27, 3) := by decide +kernel
theorem d11_Bui_init_42 : decode prog_4_method_1_code 42 = .ok (.aload_n 0, 1) := by decide +kernel
theorem d11_Bui_init_43 : decode prog_4_method_1_code 43 = .ok (.bipush 21, 2) := by decide +kernel
theorem d11_Bui_init_45 : decode prog_4_method_1_code 45 = .ok (.newarray .int, 2) := by decide +kernel
theorem d11_Bui_init_47 : decode prog_4_method_1_code 47 = .ok (.putfield 30, 3) := by decide +kernel
theorem d11_Bui_init_50 : decode prog_4_method_1_code 50 = .ok (.aload_n 0, 1) := by decide +kernel
theorem d11_Bui_init_51 : decode prog_4_method_1_code 51 = .ok (.bipush 21, 2) := by decide +kernel
theorem d11_Bui_init_53 : decode prog_4_method_1_code 53 = .ok (.newarray .int, 2) := by decide +kernel
theorem d11_Bui_init_55 : decode prog_4_method_1_code 55 = .ok (.putfield 33, 3) := by decide +kernel
theorem d11_Bui_init_58 : decode prog_4_method_1_code 58 = .ok (.aload_n 0, 1) := by decide +kernel
theorem d11_Bui_init_59 : decode prog_4_method_1_code 59 = .ok (.bipush 21, 2) := by decide +kernel
theorem d11_Bui_init_61 : decode prog_4_method_1_code 61 = .ok (.newarray .int, 2) := by decide +kernel
theorem d11_Bui_init_63 : decode prog_4_method_1_code 63 = .ok (.putfield 36, 3) := by decide +kernel
theorem d11_Bui_init_66 : decode prog_4_method_1_code 66 = .ok (.aload_n 0, 1) := by decide +kernel
theorem d11_Bui_init_67 : decode prog_4_method_1_code 67 = .ok (.aload_n 1, 1) := by decide +kernel
theorem d11_Bui_init_68 : decode prog_4_method_1_code 68 = .ok (.putfield 39, 3) := by decide +kernel
theorem d11_Bui_init_71 : decode prog_4_method_1_code 71 = .ok (.aload_n 0, 1) := by decide +kernel
theorem d11_Bui_init_72 : decode prog_4_method_1_code 72 = .ok (.aload_n 2, 1) := by decide +kernel
theorem d11_Bui_init_73 : decode prog_4_method_1_code 73 = .ok (.putfield 43, 3) := by decide +kernel
theorem d11_Bui_init_76 : decode prog_4_method_1_code 76 = .ok (.aload_n 0, 1) := by decide +kernel
theorem d11_Bui_init_77 : decode prog_4_method_1_code 77 = .ok (.aload_n 3, 1) := by decide +kernel
theorem d11_Bui_init_78 : decode prog_4_method_1_code 78 = .ok (.putfield 47, 3) := by decide +kernel
theorem d11_Bui_init_81 : decode prog_4_method_1_code 81 = .ok (.aload_n 0, 1) := by decide +kernel
theorem d11_Bui_init_82 : decode prog_4_method_1_code 82 = .ok (.aload 4, 2) := by decide +kernel
theorem d11_Bui_init_84 : decode prog_4_method_1_code 84 = .ok (.putfield 51, 3) := by decide +kernel
theorem d11_Bui_init_87 : decode prog_4_method_1_code 87 = .ok (.return_, 1) := by decide +kernel
set_option maxHeartbeats 4000000 in
set_option maxRecDepth 100000 in
/-- the loop of Circuit(): 400 Signals; which ones isn't looked at again -/
theorem lp_Cir {p : Program} {l : Launch} {e : Env} {R : Room} {s : State} {m : MethodId} {args : Array Value} {below : List Frame} {meth : Method} {c : Code} {Q : State → Prop} {D : va_G} {A : Nat → Prop} {h0 qs c0 s0 : Nat} {cS : ClassId} {fs : List Value} {x1 x2 : Nat × va_E} {y1 : ClassId × FieldType} (C : q_C p s m meth c args prog_5_method_1_code 2 "SignalTheatre$Circuit" A) (hfs : fs[2]? = some (.ref qs)) (hRc : c0 + 400 ≤ R.cells) (hRs : s0 + 5200 ≤ R.slots) (hRf : 2 ≤ R.frames) (hRl : 40 ≤ R.locals)
    (kk : ∀ (f : Nat → Option Nat) (H : Heap) (locs : List Loc) (ls : Array Slot), q_I D q_cl A s [(h0, .inr (6, fs)), (qs, .inl (cS, 400, .inr (.inr (.inr (.inr f))))), x1, x2] [(cS, .object "SignalTheatre$Signal"), y1] H locs → lv_has ls 2 [(1, .int (nI 400)), (0, .ref h0)] → W p l e R s m args below meth c H locs (c0 + 400) (s0 + 5200) Q (F0 m 157 ls [])) :
    ∀ (n i : Nat) (f : Nat → Option Nat) (H : Heap) (locs : List Loc) (ls : Array Slot), i + n = 400 → q_I D q_cl A s [(h0, .inr (6, fs)), (qs, .inl (cS, 400, .inr (.inr (.inr (.inr f))))), x1, x2] [(cS, .object "SignalTheatre$Signal"), y1] H locs → lv_has ls 2 [(1, .int (nI i)), (0, .ref h0)] → W p l e R s m args below meth c H locs (c0 + i) (s0 + 13 * i) Q (F0 m 131 ls []) := by
  have hx := C.1
  have hb := C.2.1
  intro n
  induction n with
  | zero =>
    intro i f H locs ls hi I hl
    obtain rfl : i = 400 := by omega
    refine lv_iload_n hx hb d11_Cir_init_131 rfl (lv_at hl 0 rfl) ?_
    refine lv_sipush (v := 400) hx hb d11_Cir_init_132 (by decide) ?_
    refine lv_icmp_ge (tgt := 157) hx hb d11_Cir_init_135 (by decide) (fun _ => ?_) (fun h => absurd (show nI 400 ≤ nI 400 from Int32.le_refl _) h)
    exact kk f H locs ls I hl
  | succ n ih =>
    intro i f H locs ls hi I hl
    have hlt : i < 400 := by omega
    refine lv_iload_n hx hb d11_Cir_init_131 rfl (lv_at hl 0 rfl) ?_
    refine lv_sipush (v := 400) hx hb d11_Cir_init_132 (by decide) ?_
    refine lv_icmp_ge (tgt := 157) hx hb d11_Cir_init_135 (by decide) (fun h => absurd (show nI 400 ≤ nI i from h) (nI_ge hlt (by decide))) (fun _ => ?_)
    refine lv_aload_n hx hb d11_Cir_init_138 rfl (lv_at hl 1 rfl) ?_
    refine q_get C I 0 2 rfl rfl i_Cir (by decide) m11_0 hfs d11_Cir_init_139 ?_
    refine lv_iload_n hx hb d11_Cir_init_142 rfl (lv_at hl 0 rfl) ?_
    refine q_new t_Sig t_Sig_ok C I (ci := 8) rfl i_Sig m11_1 m11_2 m11_3 z_Sig_ok (by omega) (by omega) d11_Cir_init_143 (fun q H I => ?_)
    have I : q_I D q_cl A s [(h0, .inr (6, fs)), (qs, .inl (cS, 400, .inr (.inr (.inr (.inr f))))), x1, x2, (q, .inr (8, [.int 0, .int 0, .int 0, .int 0, .int 0, .int 0, .int 0, .int 0, .int 0, .int 0, .int 0, .int 0, .int 0]))] [(cS, .object "SignalTheatre$Signal"), y1] H locs := I
    refine lv_dup hx hb d11_Cir_init_146 rfl ?_
    refine q_go (wr := [(h0, .inr (6, fs)), (qs, .inl (cS, 400, .inr (.inr (.inr (.inr f))))), x1, x2]) (tyr := [(cS, .object "SignalTheatre$Signal"), y1]) C I (q_siteIN (As := []) (rest := [.ref q, .int (nI i), .ref qs]) C rfl m11_4 m11_5 m11_6 ⟨by decide, by decide⟩ (by decide +kernel) rfl d11_Cir_init_147) (c_Sig_init l D q) m11_6 m11_3 [4] [0, 1, 2, 3] [] [0, 1] rfl rfl (by decide) (by decide) (by decide) rfl rfl hl.1 d11_Cir_init_147 (show 1 + 1 ≤ R.frames by omega) (show 3 + (1 + 11) + 12 ≤ R.locals by omega) (show c0 + i + 1 + 0 ≤ R.cells by omega) (show s0 + 13 * i + 13 + 0 ≤ R.slots by omega) (fun v w ty H locs hp I => ?_) (fun E w ty H locs q ce hp _ _ _ _ => by obtain ⟨hv, -⟩ := hp; cases hv)
    obtain ⟨hv, rfl, rfl⟩ := hp
    cases hv
    have I : q_I D q_cl A s [(h0, .inr (6, fs)), (qs, .inl (cS, 400, .inr (.inr (.inr (.inr f))))), x1, x2, (q, .inr (8, [.int 0, .int 0, .int 0, .int 0, .int 0, .int 0, .int 0, .int 0, .int 0, .int 0, .int 0, .int 0, .int 0]))] [(cS, .object "SignalTheatre$Signal"), y1] H locs := I
    refine W.eq (g2 := F0 m 150 ls [.ref q, .int (nI i), .ref qs]) rfl ?_
    refine q_astq C I 1 0 4 8 rfl rfl rfl rfl (vp_in_nI hlt (by decide)) d11_Cir_init_150 (fun H locs I => ?_)
    have I : q_I D q_cl A s [(h0, .inr (6, fs)), (qs, .inl (cS, 400, .inr (.inr (.inr (.inr (va_up f (nI i).toNatClampNeg (some q))))))), x1, x2] [(cS, .object "SignalTheatre$Signal"), y1] H locs := q_pick I [0, 1, 2, 3] [0, 1] rfl (by decide) rfl
    refine lv_iinc (v := nI (i + 1)) (lv' := [(1, .int (nI (i + 1))), (0, .ref h0)]) hx hb d11_Cir_init_151 hl (k := 0) rfl (nI_1 i) (by decide) rfl (fun ls hl => ?_)
    refine lv_goto (tgt := 131) hx hb d11_Cir_init_154 (by decide) ?_
    refine W.widen (k := c0 + (i + 1)) (n := s0 + 13 * (i + 1)) (show c0 + i + 1 + 0 ≤ c0 + (i + 1) by omega) (show s0 + 13 * i + 13 + 0 ≤ s0 + 13 * (i + 1) by omega) ?_
    exact ih (i + 1) _ H locs ls (by omega) I hl
set_option maxHeartbeats 4000000 in
set_option maxRecDepth 100000 in
/-- Circuit(): its rows, Code and Signals; text and code are looked at later -/
theorem c_Cir_init (l : Launch) (D : va_G) (h0 : Nat) : q_Met l ⟨"SignalTheatre$Circuit", "<init>", "()V"⟩ (Cond.code ⟨"SignalTheatre$Circuit", "<init>", "()V"⟩ prog_5_method_1_code 2 none) { frames := 2, cells := 429, slots := 600675, locals := 40 } D q_cl [.ref h0] [(h0, .inr (6, [.null, .null, .null, .int 0, .null, .null, .int 0, .int 0, .null, .null, .null, .int 0, .null, .null, .null, .int 0, .null, .int 0, .null, .null]))] [] (fun r w ty => ∃ (q1 : Nat) (q3 : Nat) (q19 : Nat) (q21 : Nat) (q22 : Nat) (q23 : Nat) (q24 : Nat) (q25 : Nat) (q26 : Nat) (q27 : Nat) (q28 : Nat) (q29 : Nat) (q30 : Nat) (q31 : Nat) (cA2 : ClassId) (q4 : Nat) (q5 : Nat) (q6 : Nat) (q7 : Nat) (q8 : Nat) (q9 : Nat) (q10 : Nat) (q11 : Nat) (q12 : Nat) (q13 : Nat) (q14 : Nat) (q15 : Nat) (q16 : Nat) (q17 : Nat) (q18 : Nat), r = .inl none ∧ w = [(h0, .inr (6, [.ref q1, .ref q3, .ref q19, .int 0, .ref q21, .ref q22, .int 0, .int 0, .ref q23, .ref q24, .ref q25, .int 0, .ref q26, .ref q27, .ref q28, .int 0, .ref q29, .int 0, .ref q30, .ref q31])), (q1, .inl (cA2, 32768, .inl (fun _ => 0))), (q3, .inr (7, [.ref q4, .ref q5, .ref q6, .ref q7, .ref q8, .int 0, .ref q9, .ref q10, .int 0, .ref q11, .ref q12, .ref q13, .ref q14, .ref q15, .ref q16, .ref q17, .int 0, .ref q18, .int 0, .int 0]))] ∧ ty = [(cA2, .byte)]) := by
  refine q_ofW (by decide) ?_
  intro p e s m below meth c C hr hin hex I
  have hx := C.1
  have hb := C.2.1
  have hl := lv_entry ([.ref h0]) (n := 2) (Nat.le_of_ble_eq_true rfl)
  rw [lg_entry_eq]
  generalize (lg_sl ([.ref h0]) ++ List.replicate (2 - (lg_sl ([.ref h0])).length) Slot.unset).toArray = ls at hl ⊢
  have hl : lv_has ls 2 [(0, .ref h0)] := hl
  refine lv_aload_n hx hb d11_Cir_init_0 rfl (lv_at hl 0 rfl) ?_
  refine q_obj C m11_7 m11_8 m11_9 hl.1 d11_Cir_init_1 (Nat.le_of_ble_eq_true rfl) (Nat.le_of_ble_eq_true rfl) ?_
  refine lv_aload_n hx hb d11_Cir_init_4 rfl (lv_at hl 0 rfl) ?_
  refine lv_ldc hx hb C.2.2.2.1 (C.2.2.2.2.1 _ m11_10) d11_Cir_init_5 ?_
  refine q_newa (atype := .byte) (32768, .inl (fun _ => 0)) C I rfl m11_11 (fun _ => rfl) (by decide) (by decide) (by decide) (Nat.le_of_ble_eq_true rfl) (Nat.le_of_ble_eq_true rfl) d11_Cir_init_7 (fun q1 cA2 H I => ?_)
  have I : q_I D q_cl _ s [(h0, .inr (6, [.null, .null, .null, .int 0, .null, .null, .int 0, .int 0, .null, .null, .null, .int 0, .null, .null, .null, .int 0, .null, .int 0, .null, .null])), (q1, .inl (cA2, 32768, .inl (fun _ => 0)))] [(cA2, .byte)] H _ := I
  refine q_putF t_Cir t_Cir_ok n_Cir C hin I 0 0 rfl rfl i_Cir (by decide) m11_12 rfl rfl rfl rfl (Nat.le_of_ble_eq_true rfl) d11_Cir_init_9 (fun H locs I => ?_)
  have I : q_I D q_cl _ s [(h0, .inr (6, [.ref q1, .null, .null, .int 0, .null, .null, .int 0, .int 0, .null, .null, .null, .int 0, .null, .null, .null, .int 0, .null, .int 0, .null, .null])), (q1, .inl (cA2, 32768, .inl (fun _ => 0)))] [(cA2, .byte)] H _ := I
  refine lv_aload_n hx hb d11_Cir_init_12 rfl (lv_at hl 0 rfl) ?_
  refine q_new t_Cod t_Cod_ok C I (ci := 7) rfl i_Cod m11_13 m11_14 m11_15 z_Cod_ok (Nat.le_of_ble_eq_true rfl) (Nat.le_of_ble_eq_true rfl) d11_Cir_init_13 (fun q3 H I => ?_)
  have I : q_I D q_cl _ s [(h0, .inr (6, [.ref q1, .null, .null, .int 0, .null, .null, .int 0, .int 0, .null, .null, .null, .int 0, .null, .null, .null, .int 0, .null, .int 0, .null, .null])), (q1, .inl (cA2, 32768, .inl (fun _ => 0))), (q3, .inr (7, [.null, .null, .null, .null, .null, .int 0, .null, .null, .int 0, .null, .null, .null, .null, .null, .null, .null, .int 0, .null, .int 0, .int 0]))] [(cA2, .byte)] H _ := I
  refine lv_dup hx hb d11_Cir_init_16 rfl ?_
  refine q_go (wr := [(h0, .inr (6, [.ref q1, .null, .null, .int 0, .null, .null, .int 0, .int 0, .null, .null, .null, .int 0, .null, .null, .null, .int 0, .null, .int 0, .null, .null])), (q1, .inl (cA2, 32768, .inl (fun _ => 0)))]) (tyr := [(cA2, .byte)]) C I (q_siteIN (As := []) (rest := [.ref q3, .ref h0]) C rfl m11_16 m11_18 m11_17 ⟨by decide, by decide⟩ (by decide +kernel) rfl d11_Cir_init_17) (c_Cod_init l D q3) m11_17 m11_15 [2] [0, 1] [] [0] rfl rfl (by decide) (by decide) (by decide) rfl rfl hl.1 d11_Cir_init_17 (Nat.le_of_ble_eq_true rfl) (Nat.le_of_ble_eq_true rfl) (Nat.le_of_ble_eq_true rfl) (Nat.le_of_ble_eq_true rfl) (fun v w ty H locs hp I => ?_) (fun E w ty H locs q ce hp _ _ _ _ => ?_)
  rotate_left
  · obtain ⟨_, _, _, _, _, _, _, _, _, _, _, _, _, _, _, hv, -⟩ := hp; cases hv
  obtain ⟨q4, q5, q6, q7, q8, q9, q10, q11, q12, q13, q14, q15, q16, q17, q18, hv, rfl, rfl⟩ := hp
  cases hv
  have I : q_I D q_cl _ s [(h0, .inr (6, [.ref q1, .null, .null, .int 0, .null, .null, .int 0, .int 0, .null, .null, .null, .int 0, .null, .null, .null, .int 0, .null, .int 0, .null, .null])), (q1, .inl (cA2, 32768, .inl (fun _ => 0))), (q3, .inr (7, [.ref q4, .ref q5, .ref q6, .ref q7, .ref q8, .int 0, .ref q9, .ref q10, .int 0, .ref q11, .ref q12, .ref q13, .ref q14, .ref q15, .ref q16, .ref q17, .int 0, .ref q18, .int 0, .int 0]))] [(cA2, .byte)] H _ := I
  refine W.eq (g2 := F0 m 20 ls [.ref q3, .ref h0]) rfl ?_
  refine q_putF t_Cir t_Cir_ok n_Cir C hin I 0 1 rfl rfl i_Cir (by decide) m11_19 rfl rfl rfl rfl (Nat.le_of_ble_eq_true rfl) d11_Cir_init_20 (fun H locs I => ?_)
  have I : q_I D q_cl _ s [(h0, .inr (6, [.ref q1, .ref q3, .null, .int 0, .null, .null, .int 0, .int 0, .null, .null, .null, .int 0, .null, .null, .null, .int 0, .null, .int 0, .null, .null])), (q1, .inl (cA2, 32768, .inl (fun _ => 0))), (q3, .inr (7, [.ref q4, .ref q5, .ref q6, .ref q7, .ref q8, .int 0, .ref q9, .ref q10, .int 0, .ref q11, .ref q12, .ref q13, .ref q14, .ref q15, .ref q16, .ref q17, .int 0, .ref q18, .int 0, .int 0]))] [(cA2, .byte)] H _ := I
  refine lv_aload_n hx hb d11_Cir_init_23 rfl (lv_at hl 0 rfl) ?_
  refine lv_sipush (v := 400) hx hb d11_Cir_init_24 (by decide) ?_
  refine q_newq (N' := 400) C I m11_1 m11_20 (by decide) (by decide) (by decide) (Nat.le_of_ble_eq_true rfl) (Nat.le_of_ble_eq_true rfl) d11_Cir_init_27 (fun q19 cA20 H I => ?_)
  have I : q_I D q_cl _ s [(h0, .inr (6, [.ref q1, .ref q3, .null, .int 0, .null, .null, .int 0, .int 0, .null, .null, .null, .int 0, .null, .null, .null, .int 0, .null, .int 0, .null, .null])), (q1, .inl (cA2, 32768, .inl (fun _ => 0))), (q3, .inr (7, [.ref q4, .ref q5, .ref q6, .ref q7, .ref q8, .int 0, .ref q9, .ref q10, .int 0, .ref q11, .ref q12, .ref q13, .ref q14, .ref q15, .ref q16, .ref q17, .int 0, .ref q18, .int 0, .int 0])), (q19, .inl (cA20, 400, .inr (.inr (.inr (.inr (fun _ => none))))))] [(cA2, .byte), (cA20, .object "SignalTheatre$Signal")] H _ := I
  refine q_putF t_Cir t_Cir_ok n_Cir C hin I 0 2 rfl rfl i_Cir (by decide) m11_0 rfl rfl rfl rfl (Nat.le_of_ble_eq_true rfl) d11_Cir_init_30 (fun H locs I => ?_)
  have I : q_I D q_cl _ s [(h0, .inr (6, [.ref q1, .ref q3, .ref q19, .int 0, .null, .null, .int 0, .int 0, .null, .null, .null, .int 0, .null, .null, .null, .int 0, .null, .int 0, .null, .null])), (q1, .inl (cA2, 32768, .inl (fun _ => 0))), (q3, .inr (7, [.ref q4, .ref q5, .ref q6, .ref q7, .ref q8, .int 0, .ref q9, .ref q10, .int 0, .ref q11, .ref q12, .ref q13, .ref q14, .ref q15, .ref q16, .ref q17, .int 0, .ref q18, .int 0, .int 0])), (q19, .inl (cA20, 400, .inr (.inr (.inr (.inr (fun _ => none))))))] [(cA2, .byte), (cA20, .object "SignalTheatre$Signal")] H _ := I
  refine lv_aload_n hx hb d11_Cir_init_33 rfl (lv_at hl 0 rfl) ?_
  refine lv_sipush (v := 8592) hx hb d11_Cir_init_34 (by decide) ?_
  refine q_arrF (atype := .long) (8592, .inr (.inl (fun _ => 0))) t_Cir t_Cir_ok n_Cir C hin I 0 4 rfl rfl i_Cir (by decide) m11_21 rfl rfl rfl (Nat.le_of_ble_eq_true rfl) rfl m11_22 (fun _ => rfl) (by decide) (by decide) (by decide) (Nat.le_of_ble_eq_true rfl) (Nat.le_of_ble_eq_true rfl) d11_Cir_init_37 d11_Cir_init_39 (fun q21 H locs I => ?_)
  have I : q_I D q_cl _ s [(h0, .inr (6, [.ref q1, .ref q3, .ref q19, .int 0, .ref q21, .null, .int 0, .int 0, .null, .null, .null, .int 0, .null, .null, .null, .int 0, .null, .int 0, .null, .null])), (q1, .inl (cA2, 32768, .inl (fun _ => 0))), (q3, .inr (7, [.ref q4, .ref q5, .ref q6, .ref q7, .ref q8, .int 0, .ref q9, .ref q10, .int 0, .ref q11, .ref q12, .ref q13, .ref q14, .ref q15, .ref q16, .ref q17, .int 0, .ref q18, .int 0, .int 0])), (q19, .inl (cA20, 400, .inr (.inr (.inr (.inr (fun _ => none))))))] [(cA2, .byte), (cA20, .object "SignalTheatre$Signal")] H _ := I
  refine lv_aload_n hx hb d11_Cir_init_42 rfl (lv_at hl 0 rfl) ?_
  refine lv_sipush (v := 8592) hx hb d11_Cir_init_43 (by decide) ?_
  refine q_arrF (atype := .long) (8592, .inr (.inl (fun _ => 0))) t_Cir t_Cir_ok n_Cir C hin I 0 5 rfl rfl i_Cir (by decide) m11_23 rfl rfl rfl (Nat.le_of_ble_eq_true rfl) rfl m11_22 (fun _ => rfl) (by decide) (by decide) (by decide) (Nat.le_of_ble_eq_true rfl) (Nat.le_of_ble_eq_true rfl) d11_Cir_init_46 d11_Cir_init_48 (fun q22 H locs I => ?_)
  have I : q_I D q_cl _ s [(h0, .inr (6, [.ref q1, .ref q3, .ref q19, .int 0, .ref q21, .ref q22, .int 0, .int 0, .null, .null, .null, .int 0, .null, .null, .null, .int 0, .null, .int 0, .null, .null])), (q1, .inl (cA2, 32768, .inl (fun _ => 0))), (q3, .inr (7, [.ref q4, .ref q5, .ref q6, .ref q7, .ref q8, .int 0, .ref q9, .ref q10, .int 0, .ref q11, .ref q12, .ref q13, .ref q14, .ref q15, .ref q16, .ref q17, .int 0, .ref q18, .int 0, .int 0])), (q19, .inl (cA20, 400, .inr (.inr (.inr (.inr (fun _ => none))))))] [(cA2, .byte), (cA20, .object "SignalTheatre$Signal")] H _ := I
  refine lv_aload_n hx hb d11_Cir_init_51 rfl (lv_at hl 0 rfl) ?_
  refine lv_bipush (v := 101) hx hb d11_Cir_init_52 (by decide) ?_
  refine q_arrF (atype := .int) (101, .inl (fun _ => 0)) t_Cir t_Cir_ok n_Cir C hin I 0 8 rfl rfl i_Cir (by decide) m11_24 rfl rfl rfl (Nat.le_of_ble_eq_true rfl) rfl m11_25 (fun _ => rfl) (by decide) (by decide) (by decide) (Nat.le_of_ble_eq_true rfl) (Nat.le_of_ble_eq_true rfl) d11_Cir_init_54 d11_Cir_init_56 (fun q23 H locs I => ?_)
  have I : q_I D q_cl _ s [(h0, .inr (6, [.ref q1, .ref q3, .ref q19, .int 0, .ref q21, .ref q22, .int 0, .int 0, .ref q23, .null, .null, .int 0, .null, .null, .null, .int 0, .null, .int 0, .null, .null])), (q1, .inl (cA2, 32768, .inl (fun _ => 0))), (q3, .inr (7, [.ref q4, .ref q5, .ref q6, .ref q7, .ref q8, .int 0, .ref q9, .ref q10, .int 0, .ref q11, .ref q12, .ref q13, .ref q14, .ref q15, .ref q16, .ref q17, .int 0, .ref q18, .int 0, .int 0])), (q19, .inl (cA20, 400, .inr (.inr (.inr (.inr (fun _ => none))))))] [(cA2, .byte), (cA20, .object "SignalTheatre$Signal")] H _ := I
  refine lv_aload_n hx hb d11_Cir_init_59 rfl (lv_at hl 0 rfl) ?_
  refine lv_bipush (v := 101) hx hb d11_Cir_init_60 (by decide) ?_
  refine q_arrF (atype := .int) (101, .inl (fun _ => 0)) t_Cir t_Cir_ok n_Cir C hin I 0 9 rfl rfl i_Cir (by decide) m11_26 rfl rfl rfl (Nat.le_of_ble_eq_true rfl) rfl m11_25 (fun _ => rfl) (by decide) (by decide) (by decide) (Nat.le_of_ble_eq_true rfl) (Nat.le_of_ble_eq_true rfl) d11_Cir_init_62 d11_Cir_init_64 (fun q24 H locs I => ?_)
  have I : q_I D q_cl _ s [(h0, .inr (6, [.ref q1, .ref q3, .ref q19, .int 0, .ref q21, .ref q22, .int 0, .int 0, .ref q23, .ref q24, .null, .int 0, .null, .null, .null, .int 0, .null, .int 0, .null, .null])), (q1, .inl (cA2, 32768, .inl (fun _ => 0))), (q3, .inr (7, [.ref q4, .ref q5, .ref q6, .ref q7, .ref q8, .int 0, .ref q9, .ref q10, .int 0, .ref q11, .ref q12, .ref q13, .ref q14, .ref q15, .ref q16, .ref q17, .int 0, .ref q18, .int 0, .int 0])), (q19, .inl (cA20, 400, .inr (.inr (.inr (.inr (fun _ => none))))))] [(cA2, .byte), (cA20, .object "SignalTheatre$Signal")] H _ := I
  refine lv_aload_n hx hb d11_Cir_init_67 rfl (lv_at hl 0 rfl) ?_
  refine lv_bipush (v := 101) hx hb d11_Cir_init_68 (by decide) ?_
  refine q_arrF (atype := .int) (101, .inl (fun _ => 0)) t_Cir t_Cir_ok n_Cir C hin I 0 10 rfl rfl i_Cir (by decide) m11_27 rfl rfl rfl (Nat.le_of_ble_eq_true rfl) rfl m11_25 (fun _ => rfl) (by decide) (by decide) (by decide) (Nat.le_of_ble_eq_true rfl) (Nat.le_of_ble_eq_true rfl) d11_Cir_init_70 d11_Cir_init_72 (fun q25 H locs I => ?_)
  have I : q_I D q_cl _ s [(h0, .inr (6, [.ref q1, .ref q3, .ref q19, .int 0, .ref q21, .ref q22, .int 0, .int 0, .ref q23, .ref q24, .ref q25, .int 0, .null, .null, .null, .int 0, .null, .int 0, .null, .null])), (q1, .inl (cA2, 32768, .inl (fun _ => 0))), (q3, .inr (7, [.ref q4, .ref q5, .ref q6, .ref q7, .ref q8, .int 0, .ref q9, .ref q10, .int 0, .ref q11, .ref q12, .ref q13, .ref q14, .ref q15, .ref q16, .ref q17, .int 0, .ref q18, .int 0, .int 0])), (q19, .inl (cA20, 400, .inr (.inr (.inr (.inr (fun _ => none))))))] [(cA2, .byte), (cA20, .object "SignalTheatre$Signal")] H _ := I
  refine lv_aload_n hx hb d11_Cir_init_75 rfl (lv_at hl 0 rfl) ?_
  refine lv_sipush (v := 400) hx hb d11_Cir_init_76 (by decide) ?_
  refine q_arrF (atype := .int) (400, .inl (fun _ => 0)) t_Cir t_Cir_ok n_Cir C hin I 0 12 rfl rfl i_Cir (by decide) m11_28 rfl rfl rfl (Nat.le_of_ble_eq_true rfl) rfl m11_25 (fun _ => rfl) (by decide) (by decide) (by decide) (Nat.le_of_ble_eq_true rfl) (Nat.le_of_ble_eq_true rfl) d11_Cir_init_79 d11_Cir_init_81 (fun q26 H locs I => ?_)
  have I : q_I D q_cl _ s [(h0, .inr (6, [.ref q1, .ref q3, .ref q19, .int 0, .ref q21, .ref q22, .int 0, .int 0, .ref q23, .ref q24, .ref q25, .int 0, .ref q26, .null, .null, .int 0, .null, .int 0, .null, .null])), (q1, .inl (cA2, 32768, .inl (fun _ => 0))), (q3, .inr (7, [.ref q4, .ref q5, .ref q6, .ref q7, .ref q8, .int 0, .ref q9, .ref q10, .int 0, .ref q11, .ref q12, .ref q13, .ref q14, .ref q15, .ref q16, .ref q17, .int 0, .ref q18, .int 0, .int 0])), (q19, .inl (cA20, 400, .inr (.inr (.inr (.inr (fun _ => none))))))] [(cA2, .byte), (cA20, .object "SignalTheatre$Signal")] H _ := I
  refine lv_aload_n hx hb d11_Cir_init_84 rfl (lv_at hl 0 rfl) ?_
  refine lv_sipush (v := 400) hx hb d11_Cir_init_85 (by decide) ?_
  refine q_arrF (atype := .int) (400, .inl (fun _ => 0)) t_Cir t_Cir_ok n_Cir C hin I 0 13 rfl rfl i_Cir (by decide) m11_29 rfl rfl rfl (Nat.le_of_ble_eq_true rfl) rfl m11_25 (fun _ => rfl) (by decide) (by decide) (by decide) (Nat.le_of_ble_eq_true rfl) (Nat.le_of_ble_eq_true rfl) d11_Cir_init_88 d11_Cir_init_90 (fun q27 H locs I => ?_)
  have I : q_I D q_cl _ s [(h0, .inr (6, [.ref q1, .ref q3, .ref q19, .int 0, .ref q21, .ref q22, .int 0, .int 0, .ref q23, .ref q24, .ref q25, .int 0, .ref q26, .ref q27, .null, .int 0, .null, .int 0, .null, .null])), (q1, .inl (cA2, 32768, .inl (fun _ => 0))), (q3, .inr (7, [.ref q4, .ref q5, .ref q6, .ref q7, .ref q8, .int 0, .ref q9, .ref q10, .int 0, .ref q11, .ref q12, .ref q13, .ref q14, .ref q15, .ref q16, .ref q17, .int 0, .ref q18, .int 0, .int 0])), (q19, .inl (cA20, 400, .inr (.inr (.inr (.inr (fun _ => none))))))] [(cA2, .byte), (cA20, .object "SignalTheatre$Signal")] H _ := I
  refine lv_aload_n hx hb d11_Cir_init_93 rfl (lv_at hl 0 rfl) ?_
  refine lv_sipush (v := 400) hx hb d11_Cir_init_94 (by decide) ?_
  refine q_arrF (atype := .int) (400, .inl (fun _ => 0)) t_Cir t_Cir_ok n_Cir C hin I 0 14 rfl rfl i_Cir (by decide) m11_30 rfl rfl rfl (Nat.le_of_ble_eq_true rfl) rfl m11_25 (fun _ => rfl) (by decide) (by decide) (by decide) (Nat.le_of_ble_eq_true rfl) (Nat.le_of_ble_eq_true rfl) d11_Cir_init_97 d11_Cir_init_99 (fun q28 H locs I => ?_)
  have I : q_I D q_cl _ s [(h0, .inr (6, [.ref q1, .ref q3, .ref q19, .int 0, .ref q21, .ref q22, .int 0, .int 0, .ref q23, .ref q24, .ref q25, .int 0, .ref q26, .ref q27, .ref q28, .int 0, .null, .int 0, .null, .null])), (q1, .inl (cA2, 32768, .inl (fun _ => 0))), (q3, .inr (7, [.ref q4, .ref q5, .ref q6, .ref q7, .ref q8, .int 0, .ref q9, .ref q10, .int 0, .ref q11, .ref q12, .ref q13, .ref q14, .ref q15, .ref q16, .ref q17, .int 0, .ref q18, .int 0, .int 0])), (q19, .inl (cA20, 400, .inr (.inr (.inr (.inr (fun _ => none))))))] [(cA2, .byte), (cA20, .object "SignalTheatre$Signal")] H _ := I
  refine lv_aload_n hx hb d11_Cir_init_102 rfl (lv_at hl 0 rfl) ?_
  refine lv_sipush (v := 400) hx hb d11_Cir_init_103 (by decide) ?_
  refine q_arrF (atype := .int) (400, .inl (fun _ => 0)) t_Cir t_Cir_ok n_Cir C hin I 0 16 rfl rfl i_Cir (by decide) m11_31 rfl rfl rfl (Nat.le_of_ble_eq_true rfl) rfl m11_25 (fun _ => rfl) (by decide) (by decide) (by decide) (Nat.le_of_ble_eq_true rfl) (Nat.le_of_ble_eq_true rfl) d11_Cir_init_106 d11_Cir_init_108 (fun q29 H locs I => ?_)
  have I : q_I D q_cl _ s [(h0, .inr (6, [.ref q1, .ref q3, .ref q19, .int 0, .ref q21, .ref q22, .int 0, .int 0, .ref q23, .ref q24, .ref q25, .int 0, .ref q26, .ref q27, .ref q28, .int 0, .ref q29, .int 0, .null, .null])), (q1, .inl (cA2, 32768, .inl (fun _ => 0))), (q3, .inr (7, [.ref q4, .ref q5, .ref q6, .ref q7, .ref q8, .int 0, .ref q9, .ref q10, .int 0, .ref q11, .ref q12, .ref q13, .ref q14, .ref q15, .ref q16, .ref q17, .int 0, .ref q18, .int 0, .int 0])), (q19, .inl (cA20, 400, .inr (.inr (.inr (.inr (fun _ => none))))))] [(cA2, .byte), (cA20, .object "SignalTheatre$Signal")] H _ := I
  refine lv_aload_n hx hb d11_Cir_init_111 rfl (lv_at hl 0 rfl) ?_
  refine lv_sipush (v := 400) hx hb d11_Cir_init_112 (by decide) ?_
  refine q_arrF (atype := .int) (400, .inl (fun _ => 0)) t_Cir t_Cir_ok n_Cir C hin I 0 18 rfl rfl i_Cir (by decide) m11_32 rfl rfl rfl (Nat.le_of_ble_eq_true rfl) rfl m11_25 (fun _ => rfl) (by decide) (by decide) (by decide) (Nat.le_of_ble_eq_true rfl) (Nat.le_of_ble_eq_true rfl) d11_Cir_init_115 d11_Cir_init_117 (fun q30 H locs I => ?_)
  have I : q_I D q_cl _ s [(h0, .inr (6, [.ref q1, .ref q3, .ref q19, .int 0, .ref q21, .ref q22, .int 0, .int 0, .ref q23, .ref q24, .ref q25, .int 0, .ref q26, .ref q27, .ref q28, .int 0, .ref q29, .int 0, .ref q30, .null])), (q1, .inl (cA2, 32768, .inl (fun _ => 0))), (q3, .inr (7, [.ref q4, .ref q5, .ref q6, .ref q7, .ref q8, .int 0, .ref q9, .ref q10, .int 0, .ref q11, .ref q12, .ref q13, .ref q14, .ref q15, .ref q16, .ref q17, .int 0, .ref q18, .int 0, .int 0])), (q19, .inl (cA20, 400, .inr (.inr (.inr (.inr (fun _ => none))))))] [(cA2, .byte), (cA20, .object "SignalTheatre$Signal")] H _ := I
  refine lv_aload_n hx hb d11_Cir_init_120 rfl (lv_at hl 0 rfl) ?_
  refine lv_sipush (v := 2800) hx hb d11_Cir_init_121 (by decide) ?_
  refine q_arrF (atype := .long) (2800, .inr (.inl (fun _ => 0))) t_Cir t_Cir_ok n_Cir C hin I 0 19 rfl rfl i_Cir (by decide) m11_33 rfl rfl rfl (Nat.le_of_ble_eq_true rfl) rfl m11_22 (fun _ => rfl) (by decide) (by decide) (by decide) (Nat.le_of_ble_eq_true rfl) (Nat.le_of_ble_eq_true rfl) d11_Cir_init_124 d11_Cir_init_126 (fun q31 H locs I => ?_)
  have I : q_I D q_cl _ s [(h0, .inr (6, [.ref q1, .ref q3, .ref q19, .int 0, .ref q21, .ref q22, .int 0, .int 0, .ref q23, .ref q24, .ref q25, .int 0, .ref q26, .ref q27, .ref q28, .int 0, .ref q29, .int 0, .ref q30, .ref q31])), (q1, .inl (cA2, 32768, .inl (fun _ => 0))), (q3, .inr (7, [.ref q4, .ref q5, .ref q6, .ref q7, .ref q8, .int 0, .ref q9, .ref q10, .int 0, .ref q11, .ref q12, .ref q13, .ref q14, .ref q15, .ref q16, .ref q17, .int 0, .ref q18, .int 0, .int 0])), (q19, .inl (cA20, 400, .inr (.inr (.inr (.inr (fun _ => none))))))] [(cA2, .byte), (cA20, .object "SignalTheatre$Signal")] H _ := I
  refine lv_iconst (v := 0) hx hb d11_Cir_init_129 (by decide) ?_
  refine lv_istore_n (lv' := [(1, .int 0), (0, .ref h0)]) hx hb d11_Cir_init_130 rfl hl (by decide) rfl (fun ls hl => ?_)
  have I : q_I D q_cl _ s [(h0, .inr (6, [.ref q1, .ref q3, .ref q19, .int 0, .ref q21, .ref q22, .int 0, .int 0, .ref q23, .ref q24, .ref q25, .int 0, .ref q26, .ref q27, .ref q28, .int 0, .ref q29, .int 0, .ref q30, .ref q31])), (q19, .inl (cA20, 400, .inr (.inr (.inr (.inr (fun _ => none)))))), (q1, .inl (cA2, 32768, .inl (fun _ => 0))), (q3, .inr (7, [.ref q4, .ref q5, .ref q6, .ref q7, .ref q8, .int 0, .ref q9, .ref q10, .int 0, .ref q11, .ref q12, .ref q13, .ref q14, .ref q15, .ref q16, .ref q17, .int 0, .ref q18, .int 0, .int 0]))] [(cA20, .object "SignalTheatre$Signal"), (cA2, .byte)] H _ := q_pick I [0, 3, 1, 2] [1, 0] rfl (by decide) rfl
  refine W.widen (k := 29 + 0) (n := 595475 + 13 * 0) (Nat.le_of_ble_eq_true rfl) (Nat.le_of_ble_eq_true rfl) ?_
  refine lp_Cir (c0 := 29) (s0 := 595475) C rfl (Nat.le_of_ble_eq_true rfl) (Nat.le_of_ble_eq_true rfl) (Nat.le_of_ble_eq_true rfl) (Nat.le_of_ble_eq_true rfl) (fun f H locs ls I hl => ?_) 400 0 _ _ _ ls rfl I hl
  have I : q_I D q_cl _ s [(h0, .inr (6, [.ref q1, .ref q3, .ref q19, .int 0, .ref q21, .ref q22, .int 0, .int 0, .ref q23, .ref q24, .ref q25, .int 0, .ref q26, .ref q27, .ref q28, .int 0, .ref q29, .int 0, .ref q30, .ref q31])), (q1, .inl (cA2, 32768, .inl (fun _ => 0))), (q3, .inr (7, [.ref q4, .ref q5, .ref q6, .ref q7, .ref q8, .int 0, .ref q9, .ref q10, .int 0, .ref q11, .ref q12, .ref q13, .ref q14, .ref q15, .ref q16, .ref q17, .int 0, .ref q18, .int 0, .int 0]))] [(cA2, .byte)] H _ := q_pick I [0, 2, 3] [1] rfl (by decide) rfl
  exact q_vret C hr I ⟨q1, q3, q19, q21, q22, q23, q24, q25, q26, q27, q28, q29, q30, q31, cA2, q4, q5, q6, q7, q8, q9, q10, q11, q12, q13, q14, q15, q16, q17, q18, rfl, rfl, rfl⟩ (Nat.le_of_ble_eq_true rfl) (Nat.le_of_ble_eq_true rfl) d11_Cir_init_157
set_option maxHeartbeats 4000000 in
set_option maxRecDepth 100000 in
/-- Builder(..) -/
theorem c_Bui_init (l : Launch) (D : va_G) (h0 : Nat) (p1 : Nat) (p2 : Nat) (p3 : Nat) (p4 : Nat) : q_Met l ⟨"SignalTheatre$Builder", "<init>", "(LSignalTheatre$Tokens;LSignalTheatre$Faults;LSignalTheatre$Maker;LSignalTheatre$Reader;)V"⟩ (Cond.code ⟨"SignalTheatre$Builder", "<init>", "(LSignalTheatre$Tokens;LSignalTheatre$Faults;LSignalTheatre$Maker;LSignalTheatre$Reader;)V"⟩ prog_4_method_1_code 5 none) { frames := 2, cells := 7, slots := 20103, locals := 26 } D q_cl [.ref h0, .ref p1, .ref p2, .ref p3, .ref p4] [(h0, .inr (9, [.null, .null, .null, .null, .null, .null, .null, .null, .int 0, .null, .int 0, .int 0, .null, .null, .null, .int 0, .int 0, .int 0]))] [] (fun r w ty => ∃ (q1 : Nat) (q2 : Nat) (q4 : Nat) (q5 : Nat) (q7 : Nat) (q8 : Nat) (q9 : Nat) (cA3 : ClassId) (cA6 : ClassId), r = .inl none ∧ w = [(h0, .inr (9, [.ref p1, .ref p2, .ref p3, .ref p4, .null, .ref q1, .ref q2, .ref q4, .int 0, .ref q5, .int 0, .int 0, .ref q7, .ref q8, .ref q9, .int 0, .int 0, .int 0])), (q2, .inl (cA3, 1821, .inl (fun _ => 0))), (q5, .inl (cA6, 16385, .inl (fun _ => 0)))] ∧ ty = [(cA3, .int), (cA6, .int)]) := by
  refine q_ofW (by decide) ?_
  intro p e s m below meth c C hr hin hex I
  have hx := C.1
  have hb := C.2.1
  have hl := lv_entry ([.ref h0, .ref p1, .ref p2, .ref p3, .ref p4]) (n := 5) (Nat.le_of_ble_eq_true rfl)
  rw [lg_entry_eq]
  generalize (lg_sl ([.ref h0, .ref p1, .ref p2, .ref p3, .ref p4]) ++ List.replicate (5 - (lg_sl ([.ref h0, .ref p1, .ref p2, .ref p3, .ref p4])).length) Slot.unset).toArray = ls at hl ⊢
  have hl : lv_has ls 5 [(0, .ref h0), (1, .ref p1), (2, .ref p2), (3, .ref p3), (4, .ref p4)] := hl
  refine lv_aload_n hx hb d11_Bui_init_0 rfl (lv_at hl 0 rfl) ?_
  refine q_obj C m11_34 m11_8 m11_9 hl.1 d11_Bui_init_1 (Nat.le_of_ble_eq_true rfl) (Nat.le_of_ble_eq_true rfl) ?_
  refine lv_aload_n hx hb d11_Bui_init_4 rfl (lv_at hl 0 rfl) ?_
  refine q_new t_Sig t_Sig_ok C I (ci := 8) rfl i_Sig m11_35 m11_2 m11_3 z_Sig_ok (Nat.le_of_ble_eq_true rfl) (Nat.le_of_ble_eq_true rfl) d11_Bui_init_5 (fun q1 H I => ?_)
  have I : q_I D q_cl _ s [(h0, .inr (9, [.null, .null, .null, .null, .null, .null, .null, .null, .int 0, .null, .int 0, .int 0, .null, .null, .null, .int 0, .int 0, .int 0])), (q1, .inr (8, [.int 0, .int 0, .int 0, .int 0, .int 0, .int 0, .int 0, .int 0, .int 0, .int 0, .int 0, .int 0, .int 0]))] [] H _ := I
  refine lv_dup hx hb d11_Bui_init_8 rfl ?_
  refine q_go (wr := [(h0, .inr (9, [.null, .null, .null, .null, .null, .null, .null, .null, .int 0, .null, .int 0, .int 0, .null, .null, .null, .int 0, .int 0, .int 0]))]) (tyr := []) C I (q_siteIN (As := []) (rest := [.ref q1, .ref h0]) C rfl m11_36 m11_5 m11_6 ⟨by decide, by decide⟩ (by decide +kernel) rfl d11_Bui_init_9) (c_Sig_init l D q1) m11_6 m11_3 [1] [0] [] [] rfl rfl (by decide) (by decide) (by decide) rfl rfl hl.1 d11_Bui_init_9 (Nat.le_of_ble_eq_true rfl) (Nat.le_of_ble_eq_true rfl) (Nat.le_of_ble_eq_true rfl) (Nat.le_of_ble_eq_true rfl) (fun v w ty H locs hp I => ?_) (fun E w ty H locs q ce hp _ _ _ _ => ?_)
  rotate_left
  · obtain ⟨hv, -⟩ := hp; cases hv
  obtain ⟨hv, rfl, rfl⟩ := hp
  cases hv
  have I : q_I D q_cl _ s [(h0, .inr (9, [.null, .null, .null, .null, .null, .null, .null, .null, .int 0, .null, .int 0, .int 0, .null, .null, .null, .int 0, .int 0, .int 0])), (q1, .inr (8, [.int 0, .int 0, .int 0, .int 0, .int 0, .int 0, .int 0, .int 0, .int 0, .int 0, .int 0, .int 0, .int 0]))] [] H _ := I
  refine W.eq (g2 := F0 m 12 ls [.ref q1, .ref h0]) rfl ?_
  refine q_putF t_Bui t_Bui_ok n_Bui C hin I 0 5 rfl rfl i_Bui (by decide) m11_37 rfl rfl rfl rfl (Nat.le_of_ble_eq_true rfl) d11_Bui_init_12 (fun H locs I => ?_)
  have I : q_I D q_cl _ s [(h0, .inr (9, [.null, .null, .null, .null, .null, .ref q1, .null, .null, .int 0, .null, .int 0, .int 0, .null, .null, .null, .int 0, .int 0, .int 0])), (q1, .inr (8, [.int 0, .int 0, .int 0, .int 0, .int 0, .int 0, .int 0, .int 0, .int 0, .int 0, .int 0, .int 0, .int 0]))] [] H _ := I
  refine lv_aload_n hx hb d11_Bui_init_15 rfl (lv_at hl 0 rfl) ?_
  refine lv_sipush (v := 1821) hx hb d11_Bui_init_16 (by decide) ?_
  refine q_newa (atype := .int) (1821, .inl (fun _ => 0)) C I rfl m11_25 (fun _ => rfl) (by decide) (by decide) (by decide) (Nat.le_of_ble_eq_true rfl) (Nat.le_of_ble_eq_true rfl) d11_Bui_init_19 (fun q2 cA3 H I => ?_)
  have I : q_I D q_cl _ s [(h0, .inr (9, [.null, .null, .null, .null, .null, .ref q1, .null, .null, .int 0, .null, .int 0, .int 0, .null, .null, .null, .int 0, .int 0, .int 0])), (q1, .inr (8, [.int 0, .int 0, .int 0, .int 0, .int 0, .int 0, .int 0, .int 0, .int 0, .int 0, .int 0, .int 0, .int 0])), (q2, .inl (cA3, 1821, .inl (fun _ => 0)))] [(cA3, .int)] H _ := I
  refine q_putF t_Bui t_Bui_ok n_Bui C hin I 0 6 rfl rfl i_Bui (by decide) m11_38 rfl rfl rfl rfl (Nat.le_of_ble_eq_true rfl) d11_Bui_init_21 (fun H locs I => ?_)
  have I : q_I D q_cl _ s [(h0, .inr (9, [.null, .null, .null, .null, .null, .ref q1, .ref q2, .null, .int 0, .null, .int 0, .int 0, .null, .null, .null, .int 0, .int 0, .int 0])), (q1, .inr (8, [.int 0, .int 0, .int 0, .int 0, .int 0, .int 0, .int 0, .int 0, .int 0, .int 0, .int 0, .int 0, .int 0])), (q2, .inl (cA3, 1821, .inl (fun _ => 0)))] [(cA3, .int)] H _ := I
  refine lv_aload_n hx hb d11_Bui_init_24 rfl (lv_at hl 0 rfl) ?_
  refine lv_sipush (v := 1821) hx hb d11_Bui_init_25 (by decide) ?_
  refine q_arrF (atype := .int) (1821, .inl (fun _ => 0)) t_Bui t_Bui_ok n_Bui C hin I 0 7 rfl rfl i_Bui (by decide) m11_39 rfl rfl rfl (Nat.le_of_ble_eq_true rfl) rfl m11_25 (fun _ => rfl) (by decide) (by decide) (by decide) (Nat.le_of_ble_eq_true rfl) (Nat.le_of_ble_eq_true rfl) d11_Bui_init_28 d11_Bui_init_30 (fun q4 H locs I => ?_)
  have I : q_I D q_cl _ s [(h0, .inr (9, [.null, .null, .null, .null, .null, .ref q1, .ref q2, .ref q4, .int 0, .null, .int 0, .int 0, .null, .null, .null, .int 0, .int 0, .int 0])), (q1, .inr (8, [.int 0, .int 0, .int 0, .int 0, .int 0, .int 0, .int 0, .int 0, .int 0, .int 0, .int 0, .int 0, .int 0])), (q2, .inl (cA3, 1821, .inl (fun _ => 0)))] [(cA3, .int)] H _ := I
  refine lv_aload_n hx hb d11_Bui_init_33 rfl (lv_at hl 0 rfl) ?_
  refine lv_sipush (v := 16385) hx hb d11_Bui_init_34 (by decide) ?_
  refine q_newa (atype := .int) (16385, .inl (fun _ => 0)) C I rfl m11_25 (fun _ => rfl) (by decide) (by decide) (by decide) (Nat.le_of_ble_eq_true rfl) (Nat.le_of_ble_eq_true rfl) d11_Bui_init_37 (fun q5 cA6 H I => ?_)
  have I : q_I D q_cl _ s [(h0, .inr (9, [.null, .null, .null, .null, .null, .ref q1, .ref q2, .ref q4, .int 0, .null, .int 0, .int 0, .null, .null, .null, .int 0, .int 0, .int 0])), (q1, .inr (8, [.int 0, .int 0, .int 0, .int 0, .int 0, .int 0, .int 0, .int 0, .int 0, .int 0, .int 0, .int 0, .int 0])), (q2, .inl (cA3, 1821, .inl (fun _ => 0))), (q5, .inl (cA6, 16385, .inl (fun _ => 0)))] [(cA3, .int), (cA6, .int)] H _ := I
  refine q_putF t_Bui t_Bui_ok n_Bui C hin I 0 9 rfl rfl i_Bui (by decide) m11_40 rfl rfl rfl rfl (Nat.le_of_ble_eq_true rfl) d11_Bui_init_39 (fun H locs I => ?_)
  have I : q_I D q_cl _ s [(h0, .inr (9, [.null, .null, .null, .null, .null, .ref q1, .ref q2, .ref q4, .int 0, .ref q5, .int 0, .int 0, .null, .null, .null, .int 0, .int 0, .int 0])), (q1, .inr (8, [.int 0, .int 0, .int 0, .int 0, .int 0, .int 0, .int 0, .int 0, .int 0, .int 0, .int 0, .int 0, .int 0])), (q2, .inl (cA3, 1821, .inl (fun _ => 0))), (q5, .inl (cA6, 16385, .inl (fun _ => 0)))] [(cA3, .int), (cA6, .int)] H _ := I
  refine lv_aload_n hx hb d11_Bui_init_42 rfl (lv_at hl 0 rfl) ?_
  refine lv_bipush (v := 21) hx hb d11_Bui_init_43 (by decide) ?_
  refine q_arrF (atype := .int) (21, .inl (fun _ => 0)) t_Bui t_Bui_ok n_Bui C hin I 0 12 rfl rfl i_Bui (by decide) m11_41 rfl rfl rfl (Nat.le_of_ble_eq_true rfl) rfl m11_25 (fun _ => rfl) (by decide) (by decide) (by decide) (Nat.le_of_ble_eq_true rfl) (Nat.le_of_ble_eq_true rfl) d11_Bui_init_45 d11_Bui_init_47 (fun q7 H locs I => ?_)
  have I : q_I D q_cl _ s [(h0, .inr (9, [.null, .null, .null, .null, .null, .ref q1, .ref q2, .ref q4, .int 0, .ref q5, .int 0, .int 0, .ref q7, .null, .null, .int 0, .int 0, .int 0])), (q1, .inr (8, [.int 0, .int 0, .int 0, .int 0, .int 0, .int 0, .int 0, .int 0, .int 0, .int 0, .int 0, .int 0, .int 0])), (q2, .inl (cA3, 1821, .inl (fun _ => 0))), (q5, .inl (cA6, 16385, .inl (fun _ => 0)))] [(cA3, .int), (cA6, .int)] H _ := I
  refine lv_aload_n hx hb d11_Bui_init_50 rfl (lv_at hl 0 rfl) ?_
  refine lv_bipush (v := 21) hx hb d11_Bui_init_51 (by decide) ?_
  refine q_arrF (atype := .int) (21, .inl (fun _ => 0)) t_Bui t_Bui_ok n_Bui C hin I 0 13 rfl rfl i_Bui (by decide) m11_42 rfl rfl rfl (Nat.le_of_ble_eq_true rfl) rfl m11_25 (fun _ => rfl) (by decide) (by decide) (by decide) (Nat.le_of_ble_eq_true rfl) (Nat.le_of_ble_eq_true rfl) d11_Bui_init_53 d11_Bui_init_55 (fun q8 H locs I => ?_)
  have I : q_I D q_cl _ s [(h0, .inr (9, [.null, .null, .null, .null, .null, .ref q1, .ref q2, .ref q4, .int 0, .ref q5, .int 0, .int 0, .ref q7, .ref q8, .null, .int 0, .int 0, .int 0])), (q1, .inr (8, [.int 0, .int 0, .int 0, .int 0, .int 0, .int 0, .int 0, .int 0, .int 0, .int 0, .int 0, .int 0, .int 0])), (q2, .inl (cA3, 1821, .inl (fun _ => 0))), (q5, .inl (cA6, 16385, .inl (fun _ => 0)))] [(cA3, .int), (cA6, .int)] H _ := I
  refine lv_aload_n hx hb d11_Bui_init_58 rfl (lv_at hl 0 rfl) ?_
  refine lv_bipush (v := 21) hx hb d11_Bui_init_59 (by decide) ?_
  refine q_arrF (atype := .int) (21, .inl (fun _ => 0)) t_Bui t_Bui_ok n_Bui C hin I 0 14 rfl rfl i_Bui (by decide) m11_43 rfl rfl rfl (Nat.le_of_ble_eq_true rfl) rfl m11_25 (fun _ => rfl) (by decide) (by decide) (by decide) (Nat.le_of_ble_eq_true rfl) (Nat.le_of_ble_eq_true rfl) d11_Bui_init_61 d11_Bui_init_63 (fun q9 H locs I => ?_)
  have I : q_I D q_cl _ s [(h0, .inr (9, [.null, .null, .null, .null, .null, .ref q1, .ref q2, .ref q4, .int 0, .ref q5, .int 0, .int 0, .ref q7, .ref q8, .ref q9, .int 0, .int 0, .int 0])), (q1, .inr (8, [.int 0, .int 0, .int 0, .int 0, .int 0, .int 0, .int 0, .int 0, .int 0, .int 0, .int 0, .int 0, .int 0])), (q2, .inl (cA3, 1821, .inl (fun _ => 0))), (q5, .inl (cA6, 16385, .inl (fun _ => 0)))] [(cA3, .int), (cA6, .int)] H _ := I
  refine lv_aload_n hx hb d11_Bui_init_66 rfl (lv_at hl 0 rfl) ?_
  refine lv_aload_n hx hb d11_Bui_init_67 rfl (lv_at hl 1 rfl) ?_
  refine q_putF t_Bui t_Bui_ok n_Bui C hin I 0 0 rfl rfl i_Bui (by decide) m11_44 rfl rfl rfl rfl (Nat.le_of_ble_eq_true rfl) d11_Bui_init_68 (fun H locs I => ?_)
  have I : q_I D q_cl _ s [(h0, .inr (9, [.ref p1, .null, .null, .null, .null, .ref q1, .ref q2, .ref q4, .int 0, .ref q5, .int 0, .int 0, .ref q7, .ref q8, .ref q9, .int 0, .int 0, .int 0])), (q1, .inr (8, [.int 0, .int 0, .int 0, .int 0, .int 0, .int 0, .int 0, .int 0, .int 0, .int 0, .int 0, .int 0, .int 0])), (q2, .inl (cA3, 1821, .inl (fun _ => 0))), (q5, .inl (cA6, 16385, .inl (fun _ => 0)))] [(cA3, .int), (cA6, .int)] H _ := I
  refine lv_aload_n hx hb d11_Bui_init_71 rfl (lv_at hl 0 rfl) ?_
  refine lv_aload_n hx hb d11_Bui_init_72 rfl (lv_at hl 2 rfl) ?_
  refine q_putF t_Bui t_Bui_ok n_Bui C hin I 0 1 rfl rfl i_Bui (by decide) m11_45 rfl rfl rfl rfl (Nat.le_of_ble_eq_true rfl) d11_Bui_init_73 (fun H locs I => ?_)
  have I : q_I D q_cl _ s [(h0, .inr (9, [.ref p1, .ref p2, .null, .null, .null, .ref q1, .ref q2, .ref q4, .int 0, .ref q5, .int 0, .int 0, .ref q7, .ref q8, .ref q9, .int 0, .int 0, .int 0])), (q1, .inr (8, [.int 0, .int 0, .int 0, .int 0, .int 0, .int 0, .int 0, .int 0, .int 0, .int 0, .int 0, .int 0, .int 0])), (q2, .inl (cA3, 1821, .inl (fun _ => 0))), (q5, .inl (cA6, 16385, .inl (fun _ => 0)))] [(cA3, .int), (cA6, .int)] H _ := I
  refine lv_aload_n hx hb d11_Bui_init_76 rfl (lv_at hl 0 rfl) ?_
  refine lv_aload_n hx hb d11_Bui_init_77 rfl (lv_at hl 3 rfl) ?_
  refine q_putF t_Bui t_Bui_ok n_Bui C hin I 0 2 rfl rfl i_Bui (by decide) m11_46 rfl rfl rfl rfl (Nat.le_of_ble_eq_true rfl) d11_Bui_init_78 (fun H locs I => ?_)
  have I : q_I D q_cl _ s [(h0, .inr (9, [.ref p1, .ref p2, .ref p3, .null, .null, .ref q1, .ref q2, .ref q4, .int 0, .ref q5, .int 0, .int 0, .ref q7, .ref q8, .ref q9, .int 0, .int 0, .int 0])), (q1, .inr (8, [.int 0, .int 0, .int 0, .int 0, .int 0, .int 0, .int 0, .int 0, .int 0, .int 0, .int 0, .int 0, .int 0])), (q2, .inl (cA3, 1821, .inl (fun _ => 0))), (q5, .inl (cA6, 16385, .inl (fun _ => 0)))] [(cA3, .int), (cA6, .int)] H _ := I
  refine lv_aload_n hx hb d11_Bui_init_81 rfl (lv_at hl 0 rfl) ?_
  refine lv_aload hx hb d11_Bui_init_82 (lv_at hl 4 rfl) ?_
  refine q_putF t_Bui t_Bui_ok n_Bui C hin I 0 3 rfl rfl i_Bui (by decide) m11_47 rfl rfl rfl rfl (Nat.le_of_ble_eq_true rfl) d11_Bui_init_84 (fun H locs I => ?_)
  have I : q_I D q_cl _ s [(h0, .inr (9, [.ref p1, .ref p2, .ref p3, .ref p4, .null, .ref q1, .ref q2, .ref q4, .int 0, .ref q5, .int 0, .int 0, .ref q7, .ref q8, .ref q9, .int 0, .int 0, .int 0])), (q1, .inr (8, [.int 0, .int 0, .int 0, .int 0, .int 0, .int 0, .int 0, .int 0, .int 0, .int 0, .int 0, .int 0, .int 0])), (q2, .inl (cA3, 1821, .inl (fun _ => 0))), (q5, .inl (cA6, 16385, .inl (fun _ => 0)))] [(cA3, .int), (cA6, .int)] H _ := I
  have I : q_I D q_cl _ s [(h0, .inr (9, [.ref p1, .ref p2, .ref p3, .ref p4, .null, .ref q1, .ref q2, .ref q4, .int 0, .ref q5, .int 0, .int 0, .ref q7, .ref q8, .ref q9, .int 0, .int 0, .int 0])), (q2, .inl (cA3, 1821, .inl (fun _ => 0))), (q5, .inl (cA6, 16385, .inl (fun _ => 0)))] [(cA3, .int), (cA6, .int)] H _ := q_pick I [0, 2, 3] [0, 1] rfl (by decide) rfl
  exact q_vret C hr I ⟨q1, q2, q4, q5, q7, q8, q9, cA3, cA6, rfl, rfl, rfl⟩ (Nat.le_of_ble_eq_true rfl) (Nat.le_of_ble_eq_true rfl) d11_Bui_init_87
