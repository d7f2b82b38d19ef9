set_option maxRecDepth 20000 in
theorem m13_0 : (Cond.methodLink "SignalTheatreModel$Circuit$Row" 3 ⟨"java/lang/Object", "<init>", "()V"⟩ : Cond) ∈ q_big := q_m12 (List.mem_of_getElem? (i := 51) rfl) rfl
set_option maxRecDepth 20000 in
theorem m13_1 : (Cond.instanceMethod ⟨"java/lang/Object", "<init>", "()V"⟩ : Cond) ∈ q_big := q_m1 (List.mem_of_getElem? (i := 47) rfl) rfl
set_option maxRecDepth 20000 in
theorem m13_2 : (Cond.code ⟨"java/lang/Object", "<init>", "()V"⟩ object_method_1_code 1 none : Cond) ∈ q_big := q_m1 (List.mem_of_getElem? (i := 48) rfl) rfl
set_option maxRecDepth 20000 in
theorem m13_3 : (Cond.fieldLink "SignalTheatreModel$Circuit$Row" 9 "SignalTheatreModel$Circuit$Row" "sort" "[I" : Cond) ∈ q_big := q_m12 (List.mem_of_getElem? (i := 52) rfl) rfl
set_option maxRecDepth 20000 in
theorem m13_4 : (Cond.arrayClass FieldType.int : Cond) ∈ q_big := q_m1 (List.mem_of_getElem? (i := 136) rfl) rfl
set_option maxRecDepth 20000 in
theorem m13_5 : (Cond.fieldLink "SignalTheatreModel$Circuit$Row" 15 "SignalTheatreModel$Circuit$Row" "index" "[I" : Cond) ∈ q_big := q_m12 (List.mem_of_getElem? (i := 54) rfl) rfl
set_option maxRecDepth 20000 in
theorem m13_6 : (Cond.fieldLink "SignalTheatreModel$Circuit$Row" 18 "SignalTheatreModel$Circuit$Row" "word" "[I" : Cond) ∈ q_big := q_m12 (List.mem_of_getElem? (i := 56) rfl) rfl
set_option maxRecDepth 20000 in
theorem m13_7 : (Cond.fieldLink "SignalTheatreModel$Circuit$Row" 21 "SignalTheatreModel$Circuit$Row" "ones" "[J" : Cond) ∈ q_big := q_m12 (List.mem_of_getElem? (i := 58) rfl) rfl
set_option maxRecDepth 20000 in
theorem m13_8 : (Cond.arrayClass FieldType.long : Cond) ∈ q_big := q_m1 (List.mem_of_getElem? (i := 137) rfl) rfl
set_option maxRecDepth 20000 in
theorem m13_9 : (Cond.fieldLink "SignalTheatreModel$Circuit$Row" 25 "SignalTheatreModel$Circuit$Row" "gone" "[J" : Cond) ∈ q_big := q_m12 (List.mem_of_getElem? (i := 60) rfl) rfl
set_option maxRecDepth 20000 in
theorem m13_10 : (Cond.fieldLink "SignalTheatreModel$Circuit$Row" 28 "SignalTheatreModel$Circuit$Row" "mask" "[J" : Cond) ∈ q_big := q_m12 (List.mem_of_getElem? (i := 62) rfl) rfl
set_option maxRecDepth 20000 in
theorem m13_11 : (Cond.fieldLink "SignalTheatreModel$Circuit$Row" 31 "SignalTheatreModel$Circuit$Row" "time" "[J" : Cond) ∈ q_big := q_m12 (List.mem_of_getElem? (i := 64) rfl) rfl
set_option maxRecDepth 20000 in
theorem m13_12 : (Cond.fieldLink "SignalTheatreModel$Circuit$Row" 34 "SignalTheatreModel$Circuit$Row" "later" "[Z" : Cond) ∈ q_big := q_m12 (List.mem_of_getElem? (i := 66) rfl) rfl
set_option maxRecDepth 20000 in
theorem m13_13 : (Cond.arrayClass FieldType.boolean : Cond) ∈ q_big := q_m11 (List.mem_of_getElem? (i := 192) rfl) rfl
set_option maxRecDepth 20000 in
theorem m13_14 : (Cond.methodLink "SignalTheatreModel$Cut" 3 ⟨"java/lang/Object", "<init>", "()V"⟩ : Cond) ∈ q_big := q_m11 (List.mem_of_getElem? (i := 127) rfl) rfl
set_option maxRecDepth 20000 in
theorem m13_15 : (Cond.constant "SignalTheatreModel$Cut" 9 (32768) : Cond) ∈ q_big := q_m11 (List.mem_of_getElem? (i := 128) rfl) rfl
set_option maxRecDepth 20000 in
theorem m13_16 : (Cond.fieldLink "SignalTheatreModel$Cut" 10 "SignalTheatreModel$Cut" "text" "[B" : Cond) ∈ q_big := q_m11 (List.mem_of_getElem? (i := 130) rfl) rfl
set_option maxRecDepth 20000 in
theorem m13_17 : (Cond.arrayClass FieldType.byte : Cond) ∈ q_big := q_m1 (List.mem_of_getElem? (i := 135) rfl) rfl
set_option maxRecDepth 20000 in
theorem m13_18 : (Cond.constant "SignalTheatreModel$Cut" 16 (32800) : Cond) ∈ q_big := q_m11 (List.mem_of_getElem? (i := 129) rfl) rfl
set_option maxRecDepth 20000 in
theorem m13_19 : (Cond.fieldLink "SignalTheatreModel$Cut" 17 "SignalTheatreModel$Cut" "kind" "[I" : Cond) ∈ q_big := q_m11 (List.mem_of_getElem? (i := 136) rfl) rfl
set_option maxRecDepth 20000 in
theorem m13_20 : (Cond.fieldLink "SignalTheatreModel$Cut" 21 "SignalTheatreModel$Cut" "from" "[I" : Cond) ∈ q_big := q_m11 (List.mem_of_getElem? (i := 138) rfl) rfl
set_option maxRecDepth 20000 in
theorem m13_21 : (Cond.fieldLink "SignalTheatreModel$Cut" 24 "SignalTheatreModel$Cut" "to" "[I" : Cond) ∈ q_big := q_m11 (List.mem_of_getElem? (i := 141) rfl) rfl
set_option maxRecDepth 20000 in
theorem m13_22 : (Cond.fieldLink "SignalTheatreModel$Cut" 27 "SignalTheatreModel$Cut" "width" "[I" : Cond) ∈ q_big := q_m11 (List.mem_of_getElem? (i := 144) rfl) rfl
set_option maxRecDepth 20000 in
theorem m13_23 : (Cond.fieldLink "SignalTheatreModel$Cut" 30 "SignalTheatreModel$Cut" "ones" "[J" : Cond) ∈ q_big := q_m11 (List.mem_of_getElem? (i := 146) rfl) rfl
set_option maxRecDepth 20000 in
theorem m13_24 : (Cond.fieldLink "SignalTheatreModel$Cut" 34 "SignalTheatreModel$Cut" "unknown" "[J" : Cond) ∈ q_big := q_m11 (List.mem_of_getElem? (i := 148) rfl) rfl
set_option maxRecDepth 20000 in
theorem m13_25 : (Cond.fieldLink "SignalTheatreModel$Cut" 37 "SignalTheatreModel$Cut" "signed" "[Z" : Cond) ∈ q_big := q_m11 (List.mem_of_getElem? (i := 150) rfl) rfl
set_option maxRecDepth 20000 in
theorem m13_26 : (Cond.methodLink "SignalTheatreModel$Tree" 3 ⟨"java/lang/Object", "<init>", "()V"⟩ : Cond) ∈ q_big := q_m11 (List.mem_of_getElem? (i := 121) rfl) rfl
set_option maxRecDepth 20000 in
theorem m13_27 : (Cond.classLink "SignalTheatreModel$Tree" 9 "SignalTheatreModel$Cut" : Cond) ∈ q_big := q_m11 (List.mem_of_getElem? (i := 122) rfl) rfl
set_option maxRecDepth 20000 in
theorem m13_28 : (Cond.instantiable "SignalTheatreModel$Cut" 17 : Cond) ∈ q_big := q_m11 (List.mem_of_getElem? (i := 123) rfl) rfl
set_option maxRecDepth 20000 in
theorem m13_29 : (Cond.initialized "SignalTheatreModel$Cut" : Cond) ∈ q_big := q_m1 (List.mem_of_getElem? (i := 16) rfl) rfl
set_option maxRecDepth 20000 in
theorem m13_30 : (Cond.methodLinkNest "SignalTheatreModel$Tree" 11 ⟨"SignalTheatreModel$Cut", "<init>", "()V"⟩ "SignalTheatreModel" : Cond) ∈ q_nest := q_n11 (List.mem_of_getElem? (i := 124) rfl) rfl
set_option maxRecDepth 20000 in
theorem m13_31 : (Cond.code ⟨"SignalTheatreModel$Cut", "<init>", "()V"⟩ prog_18_method_1_code 1 none : Cond) ∈ q_big := q_m11 (List.mem_of_getElem? (i := 126) rfl) rfl
set_option maxRecDepth 20000 in
theorem m13_32 : (Cond.instanceMethod ⟨"SignalTheatreModel$Cut", "<init>", "()V"⟩ : Cond) ∈ q_big := q_m11 (List.mem_of_getElem? (i := 125) rfl) rfl
set_option maxRecDepth 20000 in
theorem m13_33 : (Cond.fieldLink "SignalTheatreModel$Tree" 12 "SignalTheatreModel$Tree" "cut" "LSignalTheatreModel$Cut;" : Cond) ∈ q_big := q_m11 (List.mem_of_getElem? (i := 219) rfl) rfl
set_option maxRecDepth 20000 in
theorem m13_34 : (Cond.constant "SignalTheatreModel$Tree" 18 (66000) : Cond) ∈ q_big := q_m11 (List.mem_of_getElem? (i := 193) rfl) rfl
set_option maxRecDepth 20000 in
theorem m13_35 : (Cond.fieldLink "SignalTheatreModel$Tree" 19 "SignalTheatreModel$Tree" "sort" "[I" : Cond) ∈ q_big := q_m11 (List.mem_of_getElem? (i := 221) rfl) rfl
set_option maxRecDepth 20000 in
theorem m13_36 : (Cond.fieldLink "SignalTheatreModel$Tree" 23 "SignalTheatreModel$Tree" "a" "[I" : Cond) ∈ q_big := q_m11 (List.mem_of_getElem? (i := 223) rfl) rfl
set_option maxRecDepth 20000 in
theorem m13_37 : (Cond.fieldLink "SignalTheatreModel$Tree" 26 "SignalTheatreModel$Tree" "b" "[I" : Cond) ∈ q_big := q_m11 (List.mem_of_getElem? (i := 225) rfl) rfl
set_option maxRecDepth 20000 in
theorem m13_38 : (Cond.fieldLink "SignalTheatreModel$Tree" 29 "SignalTheatreModel$Tree" "c" "[I" : Cond) ∈ q_big := q_m11 (List.mem_of_getElem? (i := 227) rfl) rfl
set_option maxRecDepth 20000 in
theorem m13_39 : (Cond.fieldLink "SignalTheatreModel$Tree" 32 "SignalTheatreModel$Tree" "d" "[I" : Cond) ∈ q_big := q_m11 (List.mem_of_getElem? (i := 229) rfl) rfl
set_option maxRecDepth 20000 in
theorem m13_40 : (Cond.fieldLink "SignalTheatreModel$Tree" 35 "SignalTheatreModel$Tree" "next" "[I" : Cond) ∈ q_big := q_m11 (List.mem_of_getElem? (i := 231) rfl) rfl
set_option maxRecDepth 20000 in
theorem m13_41 : (Cond.fieldLink "SignalTheatreModel$Tree" 38 "SignalTheatreModel$Tree" "token" "[I" : Cond) ∈ q_big := q_m11 (List.mem_of_getElem? (i := 233) rfl) rfl
set_option maxRecDepth 20000 in
theorem m13_42 : (Cond.fieldLink "SignalTheatreModel$Tree" 41 "SignalTheatreModel$Tree" "low" "[I" : Cond) ∈ q_big := q_m11 (List.mem_of_getElem? (i := 235) rfl) rfl
set_option maxRecDepth 20000 in
theorem m13_43 : (Cond.fieldLink "SignalTheatreModel$Tree" 44 "SignalTheatreModel$Tree" "first" "[I" : Cond) ∈ q_big := q_m11 (List.mem_of_getElem? (i := 237) rfl) rfl
set_option maxRecDepth 20000 in
theorem m13_44 : (Cond.methodLinkNest "SignalTheatreModel$Tree" 49 ⟨"SignalTheatreModel$Wrong", "<init>", "()V"⟩ "SignalTheatreModel" : Cond) ∈ q_nest := q_n11 (List.mem_of_getElem? (i := 203) rfl) rfl
set_option maxRecDepth 20000 in
theorem m13_45 : (Cond.classLink "SignalTheatreModel$Tree" 47 "SignalTheatreModel$Wrong" : Cond) ∈ q_big := q_m11 (List.mem_of_getElem? (i := 194) rfl) rfl
set_option maxRecDepth 20000 in
theorem m13_46 : (Cond.instantiable "SignalTheatreModel$Wrong" 8 : Cond) ∈ q_big := q_m11 (List.mem_of_getElem? (i := 195) rfl) rfl
set_option maxRecDepth 20000 in
theorem m13_47 : (Cond.initialized "SignalTheatreModel$Wrong" : Cond) ∈ q_big := q_m1 (List.mem_of_getElem? (i := 20) rfl) rfl
set_option maxRecDepth 20000 in
theorem m13_48 : (Cond.instanceMethod ⟨"SignalTheatreModel$Wrong", "<init>", "()V"⟩ : Cond) ∈ q_big := q_m11 (List.mem_of_getElem? (i := 204) rfl) rfl
set_option maxRecDepth 20000 in
theorem m13_49 : (Cond.code ⟨"SignalTheatreModel$Wrong", "<init>", "()V"⟩ prog_20_method_1_code 1 none : Cond) ∈ q_big := q_m11 (List.mem_of_getElem? (i := 205) rfl) rfl
set_option maxRecDepth 20000 in
theorem m13_50 : (Cond.fieldLink "SignalTheatreModel$Tree" 50 "SignalTheatreModel$Tree" "wrong" "LSignalTheatreModel$Wrong;" : Cond) ∈ q_big := q_m12 (List.mem_of_getElem? (i := 5) rfl) rfl
theorem d13_Row_init_0 : decode prog_17_method_1_code 0 = .ok (.aload_n 0, 1) := by decide +kernel
theorem d13_Row_init_1 : decode prog_17_method_1_code 1 = .ok (.invokespecial 3, 3) := by decide +kernel
theorem d13_Row_init_4 : decode prog_17_method_1_code 4 = .ok (.aload_n 0, 1) := by decide +kernel
theorem d13_Row_init_5 : decode prog_17_method_1_code 5 = .ok (.sipush 5000, 3) := by decide +kernel
theorem d13_Row_init_8 : decode prog_17_method_1_code 8 = .ok (.newarray .int, 2) := by decide +kernel
theorem d13_Row_init_10 : decode prog_17_method_1_code 10 = .ok (.putfield 9, 3) := by decide +kernel
theorem d13_Row_init_13 : decode prog_17_method_1_code 13 = .ok (.aload_n 0, 1) := by decide +kernel
theorem d13_Row_init_14 : decode prog_17_method_1_code 14 = .ok (.sipush 5000, 3) := by decide +kernel
theorem d13_Row_init_17 : decode prog_17_method_1_code 17 = .ok (.newarray .int, 2) := by decide +kernel
theorem d13_Row_init_19 : decode prog_17_method_1_code 19 = .ok (.putfield 15, 3) := by decide +kernel
theorem d13_Row_init_22 : decode prog_17_method_1_code 22 = .ok (.aload_n 0, 1) := by decide +kernel
theorem d13_Row_init_23 : decode prog_17_method_1_code 23 = .ok (.sipush 5000, 3) := by decide +kernel
theorem d13_Row_init_26 : decode prog_17_method_1_code 26 = .ok (.newarray .int, 2) := by decide +kernel
theorem d13_Row_init_28 : decode prog_17_method_1_code 28 = .ok (.putfield 18, 3) := by decide +kernel
theorem d13_Row_init_31 : decode prog_17_method_1_code 31 = .ok (.aload_n 0, 1) := by decide +kernel
theorem d13_Row_init_32 : decode prog_17_method_1_code 32 = .ok (.sipush 5000, 3) := by decide +kernel
theorem d13_Row_init_35 : decode prog_17_method_1_code 35 = .ok (.newarray .long, 2) := by decide +kernel
theorem d13_Row_init_37 : decode prog_17_method_1_code 37 = .ok (.putfield 21, 3) := by decide +kernel
theorem d13_Row_init_40 : decode prog_17_method_1_code 40 = .ok (.aload_n 0, 1) := by decide +kernel
theorem d13_Row_init_41 : decode prog_17_method_1_code 41 = .ok (.sipush 5000, 3) := by decide +kernel
theorem d13_Row_init_44 : decode prog_17_method_1_code 44 = .ok (.newarray .long, 2) := by decide +kernel
theorem d13_Row_init_46 : decode prog_17_method_1_code 46 = .ok (.putfield 25, 3) := by decide +kernel
theorem d13_Row_init_49 : decode prog_17_method_1_code 49 = .ok (.aload_n 0, 1) := by decide +kernel
theorem d13_Row_init_50 : decode prog_17_method_1_code 50 = .ok (.sipush 5000, 3) := by decide +kernel
theorem d13_Row_init_53 : decode prog_17_method_1_code 53 = .ok (.newarray .long, 2) := by decide +kernel
theorem d13_Row_init_55 : decode prog_17_method_1_code 55 = .ok (.putfield 28, 3) := by decide +kernel
theorem d13_Row_init_58 : decode prog_17_method_1_code 58 = .ok (.aload_n 0, 1) := by decide +kernel
theorem d13_Row_init_59 : decode prog_17_method_1_code 59 = .ok (.sipush 5000, 3) := by decide +kernel
theorem d13_Row_init_62 : decode prog_17_method_1_code 62 = .ok (.newarray .long, 2) := by decide +kernel
theorem d13_Row_init_64 : decode prog_17_method_1_code 64 = .ok (.putfield 31, 3) := by decide +kernel
theorem d13_Row_init_67 : decode prog_17_method_1_code 67 = .ok (.aload_n 0, 1) := by decide +kernel
theorem d13_Row_init_68 : decode prog_17_method_1_code 68 = .ok (.sipush 5000, 3) := by decide +kernel
theorem d13_Row_init_71 : decode prog_17_method_1_code 71 = .ok (.newarray .boolean, 2) := by decide +kernel
theorem d13_Row_init_73 : decode prog_17_method_1_code 73 = .ok (.putfield 34, 3) := by decide +kernel
theorem d13_Row_init_76 : decode prog_17_method_1_code 76 = .ok (.return_, 1) := by decide +kernel
theorem d13_Cut_init_0 : decode prog_18_method_1_code 0 = .ok (.aload_n 0, 1) := by decide +kernel
theorem d13_Cut_init_1 : decode prog_18_method_1_code 1 = .ok (.invokespecial 3, 3) := by decide +kernel
theorem d13_Cut_init_4 : decode prog_18_method_1_code 4 = .ok (.aload_n 0, 1) := by decide +kernel
theorem d13_Cut_init_5 : decode prog_18_method_1_code 5 = .ok (.ldc 9, 2) := by decide +kernel
theorem d13_Cut_init_7 : decode prog_18_method_1_code 7 = .ok (.newarray .byte, 2) := by decide +kernel
theorem d13_Cut_init_9 : decode prog_18_method_1_code 9 = .ok (.putfield 10, 3) := by decide +kernel
theorem d13_Cut_init_12 : decode prog_18_method_1_code 12 = .ok (.aload_n 0, 1) := by decide +kernel
theorem d13_Cut_init_13 : decode prog_18_method_1_code 13 = .ok (.ldc 16, 2) := by decide +kernel
theorem d13_Cut_init_15 : decode prog_18_method_1_code 15 = .ok (.newarray .int, 2) := by decide +kernel
theorem d13_Cut_init_17 : decode prog_18_method_1_code 17 = .ok (.putfield 17, 3) := by decide +kernel
theorem d13_Cut_init_20 : decode prog_18_method_1_code 20 = .ok (.aload_n 0, 1) := by decide +kernel
theorem d13_Cut_init_21 : decode prog_18_method_1_code 21 = .ok (.ldc 16, 2) := by decide +kernel
theorem d13_Cut_init_23 : decode prog_18_method_1_code 23 = .ok (.newarray .int, 2) := by decide +kernel
theorem d13_Cut_init_25 : decode prog_18_method_1_code 25 = .ok (.putfield 21, 3) := by decide +kernel
theorem d13_Cut_init_28 : decode prog_18_method_1_code 28 = .ok (.aload_n 0, 1) := by decide +kernel
theorem d13_Cut_init_29 : decode prog_18_method_1_code 29 = .ok (.ldc 16, 2) := by decide +kernel
theorem d13_Cut_init_31 : decode prog_18_method_1_code 31 = .ok (.newarray .int, 2) := by decide +kernel
theorem d13_Cut_init_33 : decode prog_18_method_1_code 33 = .ok (.putfield 24, 3) := by decide +kernel
theorem d13_Cut_init_36 : decode prog_18_method_1_code 36 = .ok (.aload_n 0, 1) := by decide +kernel
theorem d13_Cut_init_37 : decode prog_18_method_1_code 37 = .ok (.ldc 16, 2) := by decide +kernel
theorem d13_Cut_init_39 : decode prog_18_method_1_code 39 = .ok (.newarray .int, 2) := by decide +kernel
theorem d13_Cut_init_41 : decode prog_18_method_1_code 41 = .ok (.putfield 27, 3) := by decide +kernel
theorem d13_Cut_init_44 : decode prog_18_method_1_code 44 = .ok (.aload_n 0, 1) := by decide +kernel
theorem d13_Cut_init_45 : decode prog_18_method_1_code 45 = .ok (.ldc 16, 2) := by decide +kernel
theorem d13_Cut_init_47 : decode prog_18_method_1_code 47 = .ok (.newarray .long, 2) := by decide +kernel
theorem d13_Cut_init_49 : decode prog_18_method_1_code 49 = .ok (.putfield 30, 3) := by decide +kernel
theorem d13_Cut_init_52 : decode prog_18_method_1_code 52 = .ok (.aload_n 0, 1) := by decide +kernel
theorem d13_Cut_init_53 : decode prog_18_method_1_code 53 = .ok (.ldc 16, 2) := by decide +kernel
theorem d13_Cut_init_55 : decode prog_18_method_1_code 55 = .ok (.newarray .long, 2) := by decide +kernel
theorem d13_Cut_init_57 : decode prog_18_method_1_code 57 = .ok (.putfield 34, 3) := by decide +kernel
theorem d13_Cut_init_60 : decode prog_18_method_1_code 60 = .ok (.aload_n 0, 1) := by decide +kernel
theorem d13_Cut_init_61 : decode prog_18_method_1_code 61 = .ok (.ldc 16, 2) := by decide +kernel
theorem d13_Cut_init_63 : decode prog_18_method_1_code 63 = .ok (.newarray .boolean, 2) := by decide +kernel
theorem d13_Cut_init_65 : decode prog_18_method_1_code 65 = .ok (.putfield 37, 3) := by decide +kernel
theorem d13_Cut_init_68 : decode prog_18_method_1_code 68 = .ok (.return_, 1) := by decide +kernel
theorem d13_Tre_init_0 : decode prog_19_method_1_code 0 = .ok (.aload_n 0, 1) := by decide +kernel
theorem d13_Tre_init_1 : decode prog_19_method_1_code 1 = .ok (.invokespecial 3, 3) := by decide +kernel
theorem d13_Tre_init_4 : decode prog_19_method_1_code 4 = .ok (.aload_n 0, 1) := by decide +kernel
theorem d13_Tre_init_5 : decode prog_19_method_1_code 5 = .ok (.new 9, 3) := by decide +kernel
theorem d13_Tre_init_8 : decode prog_19_method_1_code 8 = .ok (.dup, 1) := by decide +kernel
theorem d13_Tre_init_9 : decode prog_19_method_1_code 9 = .ok (.invokespecial 11, 3) := by decide +kernel
theorem d13_Tre_init_12 : decode prog_19_method_1_code 12 = .ok (.putfield 12, 3) := by decide +kernel
theorem d13_Tre_init_15 : decode prog_19_method_1_code 15 = .ok (.aload_n 0, 1) := by decide +kernel
theorem d13_Tre_init_16 : decode prog_19_method_1_code 16 = .ok (.ldc 18, 2) := by decide +kernel
theorem d13_Tre_init_18 : decode prog_19_method_1_code 18 = .ok (.newarray .int, 2) := by decide +kernel
theorem d13_Tre_init_20 : decode prog_19_method_1_code 20 = .ok (.putfield 19, 3) := by decide +kernel
theorem d13_Tre_init_23 : decode prog_19_method_1_code 23 = .ok (.aload_n 0, 1) := by decide +kernel
theorem d13_Tre_init_24 : decode prog_19_method_1_code 24 = .ok (.ldc 18, 2) := by decide +kernel
theorem d13_Tre_init_26 : decode prog_19_method_1_code 26 = .ok (.newarray .int, 2) := by decide +kernel
theorem d13_Tre_init_28 : decode prog_19_method_1_code 28 = .ok (.putfield 23, 3) := by decide +kernel
theorem d13_Tre_init_31 : decode prog_19_method_1_code 31 = .ok (.aload_n 0, 1) := by decide +kernel
theorem d13_Tre_init_32 : decode prog_19_method_1_code 32 = .ok (.ldc 18, 2) := by decide +kernel
theorem d13_Tre_init_34 : decode prog_19_method_1_code 34 = .ok (.newarray .int, 2) := by decide +kernel
theorem d13_Tre_init_36 : decode prog_19_method_1_code 36 = .ok (.putfield 26, 3) := by decide +kernel
theorem d13_Tre_init_39 : decode prog_19_method_1_code 39 = .ok (.aload_n 0, 1) := by decide +kernel
theorem d13_Tre_init_40 : decode prog_19_method_1_code 40 = .ok (.ldc 18, 2) := by decide +kernel
theorem d13_Tre_init_42 : decode prog_19_method_1_code 42 = .ok (.newarray .int, 2) := by decide +kernel
theorem d13_Tre_init_44 : decode prog_19_method_1_code 44 = .ok (.putfield 29, 3) := by decide +kernel
theorem d13_Tre_init_47 : decode prog_19_method_1_code 47 = .ok (.aload_n 0, 1) := by decide +kernel
theorem d13_Tre_init_48 : decode prog_19_method_1_code 48 = .ok (.ldc 18, 2) := by decide +kernel
theorem d13_Tre_init_50 : decode prog_19_method_1_code 50 = .ok (.newarray .int, 2) := by decide +kernel
theorem d13_Tre_init_52 : decode prog_19_method_1_code 52 = .ok (.putfield 32, 3) := by decide +kernel
theorem d13_Tre_init_55 : decode prog_19_method_1_code 55 = .ok (.aload_n 0, 1) := by decide +kernel
theorem d13_Tre_init_56 : decode prog_19_method_1_code 56 = .ok (.ldc 18, 2) := by decide +kernel
theorem d13_Tre_init_58 : decode prog_19_method_1_code 58 = .ok (.newarray .int, 2) := by decide +kernel
theorem d13_Tre_init_60 : decode prog_19_method_1_code 60 = .ok (.putfield 35, 3) := by decide +kernel
theorem d13_Tre_init_63 : decode prog_19_method_1_code 63 = .ok (.aload_n 0, 1) := by decide +kernel
theorem d13_Tre_init_64 : decode prog_19_method_1_code 64 = .ok (.ldc 18, 2) := by decide +kernel
theorem d13_Tre_init_66 : decode prog_19_method_1_code 66 = .ok (.newarray .int, 2) := by decide +kernel
theorem d13_Tre_init_68 : decode prog_19_method_1_code 68 = .ok (.putfield 38, 3) := by decide +kernel
theorem d13_Tre_init_71 : decode prog_19_method_1_code 71 = .ok (.aload_n 0, 1) := by decide +kernel
theorem d13_Tre_init_72 : decode prog_19_method_1_code 72 = .ok (.ldc 18, 2) := by decide +kernel
theorem d13_Tre_init_74 : decode prog_19_method_1_code 74 = .ok (.newarray .int, 2) := by decide +kernel
theorem d13_Tre_init_76 : decode prog_19_method_1_code 76 = .ok (.putfield 41, 3) := by decide +kernel
theorem d13_Tre_init_79 : decode prog_19_method_1_code 79 = .ok (.aload_n 0, 1) := by decide +kernel
theorem d13_Tre_init_80 : decode prog_19_method_1_code 80 = .ok (.ldc 18, 2) := by decide +kernel
theorem d13_Tre_init_82 : decode prog_19_method_1_code 82 = .ok (.newarray .int, 2) := by decide +kernel
theorem d13_Tre_init_84 : decode prog_19_method_1_code 84 = .ok (.putfield 44, 3) := by decide +kernel
theorem d13_Tre_init_87 : decode prog_19_method_1_code 87 = .ok (.aload_n 0, 1) := by decide +kernel
theorem d13_Tre_init_88 : decode prog_19_method_1_code 88 = .ok (.new 47, 3) := by decide +kernel
theorem d13_Tre_init_92 : decode prog_19_method_1_code 92 = .ok (.invokespecial 49, 3) := by decide +kernel
theorem d13_Tre_init_91 : decode prog_19_method_1_code 91 = .ok (.dup, 1) := by decide +kernel
theorem d13_Tre_init_95 : decode prog_19_method_1_code 95 = .ok (.putfield 50, 3) := by decide +kernel
theorem d13_Tre_init_98 : decode prog_19_method_1_code 98 = .ok (.return_, 1) := by decide +kernel
theorem q_len8 {fs : List Value} (h : fs.length = 8) : ∃ a b c d e f g k, fs = [a, b, c, d, e, f, g, k] := by
  match fs, h with
  | [a, b, c, d, e, f, g, k], _ => exact ⟨a, b, c, d, e, f, g, k, rfl⟩
set_option maxHeartbeats 4000000 in
set_option maxRecDepth 100000 in
/-- Row() -/
theorem c_Row_init (l : Launch) (D : va_G) (h0 : Nat) : q_Met l ⟨"SignalTheatreModel$Circuit$Row", "<init>", "()V"⟩ (Cond.code ⟨"SignalTheatreModel$Circuit$Row", "<init>", "()V"⟩ prog_17_method_1_code 1 none) { frames := 1, cells := 8, slots := 40000, locals := 12 } D q_cl [.ref h0] [(h0, .inr (18, [.null, .null, .null, .null, .null, .null, .null, .null, .int 0]))] [] (fun r w ty => ∃ (q1 : Nat) (q2 : Nat) (q3 : Nat) (q4 : Nat) (q5 : Nat) (q6 : Nat) (q7 : Nat) (q8 : Nat), r = .inl none ∧ w = [(h0, .inr (18, [.ref q1, .ref q2, .ref q3, .ref q4, .ref q5, .ref q6, .ref q7, .ref q8, .int 0]))] ∧ ty = []) := by
  refine q_ofW (by decide) ?_
  intro p e s m below meth c C hr hin hex I
  have hx := C.1
  have hb := C.2.1
  have hl := lv_entry ([.ref h0]) (n := 1) (Nat.le_of_ble_eq_true rfl)
  rw [lg_entry_eq]
  generalize (lg_sl ([.ref h0]) ++ List.replicate (1 - (lg_sl ([.ref h0])).length) Slot.unset).toArray = ls at hl ⊢
  have hl : lv_has ls 1 [(0, .ref h0)] := hl
  refine lv_aload_n hx hb d13_Row_init_0 rfl (lv_at hl 0 rfl) ?_
  refine q_obj C m13_0 m13_1 m13_2 hl.1 d13_Row_init_1 (Nat.le_of_ble_eq_true rfl) (Nat.le_of_ble_eq_true rfl) ?_
  refine lv_aload_n hx hb d13_Row_init_4 rfl (lv_at hl 0 rfl) ?_
  refine lv_sipush (v := 5000) hx hb d13_Row_init_5 (by decide) ?_
  refine q_arrF (atype := .int) (5000, .inl (fun _ => 0)) t_Row t_Row_ok n_Row C hin I 0 0 rfl rfl i_Row (by decide) m13_3 rfl rfl rfl (Nat.le_of_ble_eq_true rfl) rfl m13_4 (fun _ => rfl) (by decide) (by decide) (by decide) (Nat.le_of_ble_eq_true rfl) (Nat.le_of_ble_eq_true rfl) d13_Row_init_8 d13_Row_init_10 (fun q1 H locs I => ?_)
  have I : q_I D q_cl _ s [(h0, .inr (18, [.ref q1, .null, .null, .null, .null, .null, .null, .null, .int 0]))] [] H _ := I
  refine lv_aload_n hx hb d13_Row_init_13 rfl (lv_at hl 0 rfl) ?_
  refine lv_sipush (v := 5000) hx hb d13_Row_init_14 (by decide) ?_
  refine q_arrF (atype := .int) (5000, .inl (fun _ => 0)) t_Row t_Row_ok n_Row C hin I 0 1 rfl rfl i_Row (by decide) m13_5 rfl rfl rfl (Nat.le_of_ble_eq_true rfl) rfl m13_4 (fun _ => rfl) (by decide) (by decide) (by decide) (Nat.le_of_ble_eq_true rfl) (Nat.le_of_ble_eq_true rfl) d13_Row_init_17 d13_Row_init_19 (fun q2 H locs I => ?_)
  have I : q_I D q_cl _ s [(h0, .inr (18, [.ref q1, .ref q2, .null, .null, .null, .null, .null, .null, .int 0]))] [] H _ := I
  refine lv_aload_n hx hb d13_Row_init_22 rfl (lv_at hl 0 rfl) ?_
  refine lv_sipush (v := 5000) hx hb d13_Row_init_23 (by decide) ?_
  refine q_arrF (atype := .int) (5000, .inl (fun _ => 0)) t_Row t_Row_ok n_Row C hin I 0 2 rfl rfl i_Row (by decide) m13_6 rfl rfl rfl (Nat.le_of_ble_eq_true rfl) rfl m13_4 (fun _ => rfl) (by decide) (by decide) (by decide) (Nat.le_of_ble_eq_true rfl) (Nat.le_of_ble_eq_true rfl) d13_Row_init_26 d13_Row_init_28 (fun q3 H locs I => ?_)
  have I : q_I D q_cl _ s [(h0, .inr (18, [.ref q1, .ref q2, .ref q3, .null, .null, .null, .null, .null, .int 0]))] [] H _ := I
  refine lv_aload_n hx hb d13_Row_init_31 rfl (lv_at hl 0 rfl) ?_
  refine lv_sipush (v := 5000) hx hb d13_Row_init_32 (by decide) ?_
  refine q_arrF (atype := .long) (5000, .inr (.inl (fun _ => 0))) t_Row t_Row_ok n_Row C hin I 0 3 rfl rfl i_Row (by decide) m13_7 rfl rfl rfl (Nat.le_of_ble_eq_true rfl) rfl m13_8 (fun _ => rfl) (by decide) (by decide) (by decide) (Nat.le_of_ble_eq_true rfl) (Nat.le_of_ble_eq_true rfl) d13_Row_init_35 d13_Row_init_37 (fun q4 H locs I => ?_)
  have I : q_I D q_cl _ s [(h0, .inr (18, [.ref q1, .ref q2, .ref q3, .ref q4, .null, .null, .null, .null, .int 0]))] [] H _ := I
  refine lv_aload_n hx hb d13_Row_init_40 rfl (lv_at hl 0 rfl) ?_
  refine lv_sipush (v := 5000) hx hb d13_Row_init_41 (by decide) ?_
  refine q_arrF (atype := .long) (5000, .inr (.inl (fun _ => 0))) t_Row t_Row_ok n_Row C hin I 0 4 rfl rfl i_Row (by decide) m13_9 rfl rfl rfl (Nat.le_of_ble_eq_true rfl) rfl m13_8 (fun _ => rfl) (by decide) (by decide) (by decide) (Nat.le_of_ble_eq_true rfl) (Nat.le_of_ble_eq_true rfl) d13_Row_init_44 d13_Row_init_46 (fun q5 H locs I => ?_)
  have I : q_I D q_cl _ s [(h0, .inr (18, [.ref q1, .ref q2, .ref q3, .ref q4, .ref q5, .null, .null, .null, .int 0]))] [] H _ := I
  refine lv_aload_n hx hb d13_Row_init_49 rfl (lv_at hl 0 rfl) ?_
  refine lv_sipush (v := 5000) hx hb d13_Row_init_50 (by decide) ?_
  refine q_arrF (atype := .long) (5000, .inr (.inl (fun _ => 0))) t_Row t_Row_ok n_Row C hin I 0 5 rfl rfl i_Row (by decide) m13_10 rfl rfl rfl (Nat.le_of_ble_eq_true rfl) rfl m13_8 (fun _ => rfl) (by decide) (by decide) (by decide) (Nat.le_of_ble_eq_true rfl) (Nat.le_of_ble_eq_true rfl) d13_Row_init_53 d13_Row_init_55 (fun q6 H locs I => ?_)
  have I : q_I D q_cl _ s [(h0, .inr (18, [.ref q1, .ref q2, .ref q3, .ref q4, .ref q5, .ref q6, .null, .null, .int 0]))] [] H _ := I
  refine lv_aload_n hx hb d13_Row_init_58 rfl (lv_at hl 0 rfl) ?_
  refine lv_sipush (v := 5000) hx hb d13_Row_init_59 (by decide) ?_
  refine q_arrF (atype := .long) (5000, .inr (.inl (fun _ => 0))) t_Row t_Row_ok n_Row C hin I 0 6 rfl rfl i_Row (by decide) m13_11 rfl rfl rfl (Nat.le_of_ble_eq_true rfl) rfl m13_8 (fun _ => rfl) (by decide) (by decide) (by decide) (Nat.le_of_ble_eq_true rfl) (Nat.le_of_ble_eq_true rfl) d13_Row_init_62 d13_Row_init_64 (fun q7 H locs I => ?_)
  have I : q_I D q_cl _ s [(h0, .inr (18, [.ref q1, .ref q2, .ref q3, .ref q4, .ref q5, .ref q6, .ref q7, .null, .int 0]))] [] H _ := I
  refine lv_aload_n hx hb d13_Row_init_67 rfl (lv_at hl 0 rfl) ?_
  refine lv_sipush (v := 5000) hx hb d13_Row_init_68 (by decide) ?_
  refine q_arrF (atype := .boolean) (5000, .inl (fun _ => 0)) t_Row t_Row_ok n_Row C hin I 0 7 rfl rfl i_Row (by decide) m13_12 rfl rfl rfl (Nat.le_of_ble_eq_true rfl) rfl m13_13 (fun _ => rfl) (by decide) (by decide) (by decide) (Nat.le_of_ble_eq_true rfl) (Nat.le_of_ble_eq_true rfl) d13_Row_init_71 d13_Row_init_73 (fun q8 H locs I => ?_)
  have I : q_I D q_cl _ s [(h0, .inr (18, [.ref q1, .ref q2, .ref q3, .ref q4, .ref q5, .ref q6, .ref q7, .ref q8, .int 0]))] [] H _ := I
  exact q_vret C hr I ⟨q1, q2, q3, q4, q5, q6, q7, q8, rfl, rfl, rfl⟩ (Nat.le_of_ble_eq_true rfl) (Nat.le_of_ble_eq_true rfl) d13_Row_init_76
set_option maxHeartbeats 4000000 in
set_option maxRecDepth 100000 in
/-- Cut(): three rows are looked at later -/
theorem c_Cut_init (l : Launch) (D : va_G) (h0 : Nat) : q_Met l ⟨"SignalTheatreModel$Cut", "<init>", "()V"⟩ (Cond.code ⟨"SignalTheatreModel$Cut", "<init>", "()V"⟩ prog_18_method_1_code 1 none) { frames := 1, cells := 8, slots := 262368, locals := 12 } D q_cl [.ref h0] [(h0, .inr (15, [.null, .int 0, .int 0, .int 0, .null, .null, .null, .null, .null, .null, .null, .int 0, .long 0, .long 0, .long 0, .int 0, .int 0]))] [] (fun r w ty => ∃ (q1 : Nat) (q2 : Nat) (q4 : Nat) (q6 : Nat) (q8 : Nat) (q9 : Nat) (q10 : Nat) (q11 : Nat) (cA3 : ClassId) (cA5 : ClassId) (cA7 : ClassId), r = .inl none ∧ w = [(h0, .inr (15, [.ref q1, .int 0, .int 0, .int 0, .ref q2, .ref q4, .ref q6, .ref q8, .ref q9, .ref q10, .ref q11, .int 0, .long 0, .long 0, .long 0, .int 0, .int 0])), (q2, .inl (cA3, 32800, .inl (fun _ => 0))), (q4, .inl (cA5, 32800, .inl (fun _ => 0))), (q6, .inl (cA7, 32800, .inl (fun _ => 0)))] ∧ ty = [(cA3, .int), (cA5, .int), (cA7, .int)]) := by
  refine q_ofW (by decide) ?_
  intro p e s m below meth c C hr hin hex I
  have hx := C.1
  have hb := C.2.1
  have hl := lv_entry ([.ref h0]) (n := 1) (Nat.le_of_ble_eq_true rfl)
  rw [lg_entry_eq]
  generalize (lg_sl ([.ref h0]) ++ List.replicate (1 - (lg_sl ([.ref h0])).length) Slot.unset).toArray = ls at hl ⊢
  have hl : lv_has ls 1 [(0, .ref h0)] := hl
  refine lv_aload_n hx hb d13_Cut_init_0 rfl (lv_at hl 0 rfl) ?_
  refine q_obj C m13_14 m13_1 m13_2 hl.1 d13_Cut_init_1 (Nat.le_of_ble_eq_true rfl) (Nat.le_of_ble_eq_true rfl) ?_
  refine lv_aload_n hx hb d13_Cut_init_4 rfl (lv_at hl 0 rfl) ?_
  refine lv_ldc hx hb C.2.2.2.1 (C.2.2.2.2.1 _ m13_15) d13_Cut_init_5 ?_
  refine q_arrF (atype := .byte) (32768, .inl (fun _ => 0)) t_Cut t_Cut_ok n_Cut C hin I 0 0 rfl rfl i_Cut (by decide) m13_16 rfl rfl rfl (Nat.le_of_ble_eq_true rfl) rfl m13_17 (fun _ => rfl) (by decide) (by decide) (by decide) (Nat.le_of_ble_eq_true rfl) (Nat.le_of_ble_eq_true rfl) d13_Cut_init_7 d13_Cut_init_9 (fun q1 H locs I => ?_)
  have I : q_I D q_cl _ s [(h0, .inr (15, [.ref q1, .int 0, .int 0, .int 0, .null, .null, .null, .null, .null, .null, .null, .int 0, .long 0, .long 0, .long 0, .int 0, .int 0]))] [] H _ := I
  refine lv_aload_n hx hb d13_Cut_init_12 rfl (lv_at hl 0 rfl) ?_
  refine lv_ldc hx hb C.2.2.2.1 (C.2.2.2.2.1 _ m13_18) d13_Cut_init_13 ?_
  refine q_newa (atype := .int) (32800, .inl (fun _ => 0)) C I rfl m13_4 (fun _ => rfl) (by decide) (by decide) (by decide) (Nat.le_of_ble_eq_true rfl) (Nat.le_of_ble_eq_true rfl) d13_Cut_init_15 (fun q2 cA3 H I => ?_)
  have I : q_I D q_cl _ s [(h0, .inr (15, [.ref q1, .int 0, .int 0, .int 0, .null, .null, .null, .null, .null, .null, .null, .int 0, .long 0, .long 0, .long 0, .int 0, .int 0])), (q2, .inl (cA3, 32800, .inl (fun _ => 0)))] [(cA3, .int)] H _ := I
  refine q_putF t_Cut t_Cut_ok n_Cut C hin I 0 4 rfl rfl i_Cut (by decide) m13_19 rfl rfl rfl rfl (Nat.le_of_ble_eq_true rfl) d13_Cut_init_17 (fun H locs I => ?_)
  have I : q_I D q_cl _ s [(h0, .inr (15, [.ref q1, .int 0, .int 0, .int 0, .ref q2, .null, .null, .null, .null, .null, .null, .int 0, .long 0, .long 0, .long 0, .int 0, .int 0])), (q2, .inl (cA3, 32800, .inl (fun _ => 0)))] [(cA3, .int)] H _ := I
  refine lv_aload_n hx hb d13_Cut_init_20 rfl (lv_at hl 0 rfl) ?_
  refine lv_ldc hx hb C.2.2.2.1 (C.2.2.2.2.1 _ m13_18) d13_Cut_init_21 ?_
  refine q_newa (atype := .int) (32800, .inl (fun _ => 0)) C I rfl m13_4 (fun _ => rfl) (by decide) (by decide) (by decide) (Nat.le_of_ble_eq_true rfl) (Nat.le_of_ble_eq_true rfl) d13_Cut_init_23 (fun q4 cA5 H I => ?_)
  have I : q_I D q_cl _ s [(h0, .inr (15, [.ref q1, .int 0, .int 0, .int 0, .ref q2, .null, .null, .null, .null, .null, .null, .int 0, .long 0, .long 0, .long 0, .int 0, .int 0])), (q2, .inl (cA3, 32800, .inl (fun _ => 0))), (q4, .inl (cA5, 32800, .inl (fun _ => 0)))] [(cA3, .int), (cA5, .int)] H _ := I
  refine q_putF t_Cut t_Cut_ok n_Cut C hin I 0 5 rfl rfl i_Cut (by decide) m13_20 rfl rfl rfl rfl (Nat.le_of_ble_eq_true rfl) d13_Cut_init_25 (fun H locs I => ?_)
  have I : q_I D q_cl _ s [(h0, .inr (15, [.ref q1, .int 0, .int 0, .int 0, .ref q2, .ref q4, .null, .null, .null, .null, .null, .int 0, .long 0, .long 0, .long 0, .int 0, .int 0])), (q2, .inl (cA3, 32800, .inl (fun _ => 0))), (q4, .inl (cA5, 32800, .inl (fun _ => 0)))] [(cA3, .int), (cA5, .int)] H _ := I
  refine lv_aload_n hx hb d13_Cut_init_28 rfl (lv_at hl 0 rfl) ?_
  refine lv_ldc hx hb C.2.2.2.1 (C.2.2.2.2.1 _ m13_18) d13_Cut_init_29 ?_
  refine q_newa (atype := .int) (32800, .inl (fun _ => 0)) C I rfl m13_4 (fun _ => rfl) (by decide) (by decide) (by decide) (Nat.le_of_ble_eq_true rfl) (Nat.le_of_ble_eq_true rfl) d13_Cut_init_31 (fun q6 cA7 H I => ?_)
  have I : q_I D q_cl _ s [(h0, .inr (15, [.ref q1, .int 0, .int 0, .int 0, .ref q2, .ref q4, .null, .null, .null, .null, .null, .int 0, .long 0, .long 0, .long 0, .int 0, .int 0])), (q2, .inl (cA3, 32800, .inl (fun _ => 0))), (q4, .inl (cA5, 32800, .inl (fun _ => 0))), (q6, .inl (cA7, 32800, .inl (fun _ => 0)))] [(cA3, .int), (cA5, .int), (cA7, .int)] H _ := I
  refine q_putF t_Cut t_Cut_ok n_Cut C hin I 0 6 rfl rfl i_Cut (by decide) m13_21 rfl rfl rfl rfl (Nat.le_of_ble_eq_true rfl) d13_Cut_init_33 (fun H locs I => ?_)
  have I : q_I D q_cl _ s [(h0, .inr (15, [.ref q1, .int 0, .int 0, .int 0, .ref q2, .ref q4, .ref q6, .null, .null, .null, .null, .int 0, .long 0, .long 0, .long 0, .int 0, .int 0])), (q2, .inl (cA3, 32800, .inl (fun _ => 0))), (q4, .inl (cA5, 32800, .inl (fun _ => 0))), (q6, .inl (cA7, 32800, .inl (fun _ => 0)))] [(cA3, .int), (cA5, .int), (cA7, .int)] H _ := I
  refine lv_aload_n hx hb d13_Cut_init_36 rfl (lv_at hl 0 rfl) ?_
  refine lv_ldc hx hb C.2.2.2.1 (C.2.2.2.2.1 _ m13_18) d13_Cut_init_37 ?_
  refine q_arrF (atype := .int) (32800, .inl (fun _ => 0)) t_Cut t_Cut_ok n_Cut C hin I 0 7 rfl rfl i_Cut (by decide) m13_22 rfl rfl rfl (Nat.le_of_ble_eq_true rfl) rfl m13_4 (fun _ => rfl) (by decide) (by decide) (by decide) (Nat.le_of_ble_eq_true rfl) (Nat.le_of_ble_eq_true rfl) d13_Cut_init_39 d13_Cut_init_41 (fun q8 H locs I => ?_)
  have I : q_I D q_cl _ s [(h0, .inr (15, [.ref q1, .int 0, .int 0, .int 0, .ref q2, .ref q4, .ref q6, .ref q8, .null, .null, .null, .int 0, .long 0, .long 0, .long 0, .int 0, .int 0])), (q2, .inl (cA3, 32800, .inl (fun _ => 0))), (q4, .inl (cA5, 32800, .inl (fun _ => 0))), (q6, .inl (cA7, 32800, .inl (fun _ => 0)))] [(cA3, .int), (cA5, .int), (cA7, .int)] H _ := I
  refine lv_aload_n hx hb d13_Cut_init_44 rfl (lv_at hl 0 rfl) ?_
  refine lv_ldc hx hb C.2.2.2.1 (C.2.2.2.2.1 _ m13_18) d13_Cut_init_45 ?_
  refine q_arrF (atype := .long) (32800, .inr (.inl (fun _ => 0))) t_Cut t_Cut_ok n_Cut C hin I 0 8 rfl rfl i_Cut (by decide) m13_23 rfl rfl rfl (Nat.le_of_ble_eq_true rfl) rfl m13_8 (fun _ => rfl) (by decide) (by decide) (by decide) (Nat.le_of_ble_eq_true rfl) (Nat.le_of_ble_eq_true rfl) d13_Cut_init_47 d13_Cut_init_49 (fun q9 H locs I => ?_)
  have I : q_I D q_cl _ s [(h0, .inr (15, [.ref q1, .int 0, .int 0, .int 0, .ref q2, .ref q4, .ref q6, .ref q8, .ref q9, .null, .null, .int 0, .long 0, .long 0, .long 0, .int 0, .int 0])), (q2, .inl (cA3, 32800, .inl (fun _ => 0))), (q4, .inl (cA5, 32800, .inl (fun _ => 0))), (q6, .inl (cA7, 32800, .inl (fun _ => 0)))] [(cA3, .int), (cA5, .int), (cA7, .int)] H _ := I
  refine lv_aload_n hx hb d13_Cut_init_52 rfl (lv_at hl 0 rfl) ?_
  refine lv_ldc hx hb C.2.2.2.1 (C.2.2.2.2.1 _ m13_18) d13_Cut_init_53 ?_
  refine q_arrF (atype := .long) (32800, .inr (.inl (fun _ => 0))) t_Cut t_Cut_ok n_Cut C hin I 0 9 rfl rfl i_Cut (by decide) m13_24 rfl rfl rfl (Nat.le_of_ble_eq_true rfl) rfl m13_8 (fun _ => rfl) (by decide) (by decide) (by decide) (Nat.le_of_ble_eq_true rfl) (Nat.le_of_ble_eq_true rfl) d13_Cut_init_55 d13_Cut_init_57 (fun q10 H locs I => ?_)
  have I : q_I D q_cl _ s [(h0, .inr (15, [.ref q1, .int 0, .int 0, .int 0, .ref q2, .ref q4, .ref q6, .ref q8, .ref q9, .ref q10, .null, .int 0, .long 0, .long 0, .long 0, .int 0, .int 0])), (q2, .inl (cA3, 32800, .inl (fun _ => 0))), (q4, .inl (cA5, 32800, .inl (fun _ => 0))), (q6, .inl (cA7, 32800, .inl (fun _ => 0)))] [(cA3, .int), (cA5, .int), (cA7, .int)] H _ := I
  refine lv_aload_n hx hb d13_Cut_init_60 rfl (lv_at hl 0 rfl) ?_
  refine lv_ldc hx hb C.2.2.2.1 (C.2.2.2.2.1 _ m13_18) d13_Cut_init_61 ?_
  refine q_arrF (atype := .boolean) (32800, .inl (fun _ => 0)) t_Cut t_Cut_ok n_Cut C hin I 0 10 rfl rfl i_Cut (by decide) m13_25 rfl rfl rfl (Nat.le_of_ble_eq_true rfl) rfl m13_13 (fun _ => rfl) (by decide) (by decide) (by decide) (Nat.le_of_ble_eq_true rfl) (Nat.le_of_ble_eq_true rfl) d13_Cut_init_63 d13_Cut_init_65 (fun q11 H locs I => ?_)
  have I : q_I D q_cl _ s [(h0, .inr (15, [.ref q1, .int 0, .int 0, .int 0, .ref q2, .ref q4, .ref q6, .ref q8, .ref q9, .ref q10, .ref q11, .int 0, .long 0, .long 0, .long 0, .int 0, .int 0])), (q2, .inl (cA3, 32800, .inl (fun _ => 0))), (q4, .inl (cA5, 32800, .inl (fun _ => 0))), (q6, .inl (cA7, 32800, .inl (fun _ => 0)))] [(cA3, .int), (cA5, .int), (cA7, .int)] H _ := I
  exact q_vret C hr I ⟨q1, q2, q4, q6, q8, q9, q10, q11, cA3, cA5, cA7, rfl, rfl, rfl⟩ (Nat.le_of_ble_eq_true rfl) (Nat.le_of_ble_eq_true rfl) d13_Cut_init_68
set_option maxHeartbeats 4000000 in
set_option maxRecDepth 100000 in
/-- Tree() -/
theorem c_Tre_init (l : Launch) (D : va_G) (hl9 : l.stackTraces = false) (h0 : Nat) : q_Met l ⟨"SignalTheatreModel$Tree", "<init>", "()V"⟩ (Cond.code ⟨"SignalTheatreModel$Tree", "<init>", "()V"⟩ prog_19_method_1_code 1 none) { frames := 6, cells := 19, slots := 856393, locals := 82 } D q_cl [.ref h0] [(h0, .inr (14, [.null, .null, .null, .null, .null, .null, .null, .null, .null, .null, .int 0, .int 0, .int 0, .int 0, .null]))] [] (fun r w ty => ∃ (q1 : Nat) (q13 : Nat) (q14 : Nat) (q15 : Nat) (q16 : Nat) (q17 : Nat) (q18 : Nat) (q19 : Nat) (q20 : Nat) (q21 : Nat) (q22 : Nat) (q2 : Nat) (q3 : Nat) (q4 : Nat) (q5 : Nat) (q6 : Nat) (q7 : Nat) (q8 : Nat) (q9 : Nat) (cA10 : ClassId) (cA11 : ClassId) (cA12 : ClassId) (vv24 : Value) (vv25 : Value) (vv26 : Value) (vv27 : Value) (vv28 : Value) (vv31 : Value), r = .inl none ∧ w = [(h0, .inr (14, [.ref q1, .ref q13, .ref q14, .ref q15, .ref q16, .ref q17, .ref q18, .ref q19, .ref q20, .ref q21, .int 0, .int 0, .int 0, .int 0, .ref q22])), (q1, .inr (15, [.ref q2, .int 0, .int 0, .int 0, .ref q3, .ref q4, .ref q5, .ref q6, .ref q7, .ref q8, .ref q9, .int 0, .long 0, .long 0, .long 0, .int 0, .int 0])), (q3, .inl (cA10, 32800, .inl (fun _ => 0))), (q4, .inl (cA11, 32800, .inl (fun _ => 0))), (q5, .inl (cA12, 32800, .inl (fun _ => 0))), (q22, .inr (16, [vv24, vv25, vv26, vv27, vv28, .int 0, .int 0, vv31]))] ∧ ty = [(cA10, .int), (cA11, .int), (cA12, .int)]) := by
  refine q_ofW (by decide) ?_
  intro p e s m below meth c C hr hin hex I
  have hx := C.1
  have hb := C.2.1
  have hl := lv_entry ([.ref h0]) (n := 1) (Nat.le_of_ble_eq_true rfl)
  rw [lg_entry_eq]
  generalize (lg_sl ([.ref h0]) ++ List.replicate (1 - (lg_sl ([.ref h0])).length) Slot.unset).toArray = ls at hl ⊢
  have hl : lv_has ls 1 [(0, .ref h0)] := hl
  refine lv_aload_n hx hb d13_Tre_init_0 rfl (lv_at hl 0 rfl) ?_
  refine q_obj C m13_26 m13_1 m13_2 hl.1 d13_Tre_init_1 (Nat.le_of_ble_eq_true rfl) (Nat.le_of_ble_eq_true rfl) ?_
  refine lv_aload_n hx hb d13_Tre_init_4 rfl (lv_at hl 0 rfl) ?_
  refine q_new t_Cut t_Cut_ok C I (ci := 15) rfl i_Cut m13_27 m13_28 m13_29 z_Cut_ok (Nat.le_of_ble_eq_true rfl) (Nat.le_of_ble_eq_true rfl) d13_Tre_init_5 (fun q1 H I => ?_)
  have I : q_I D q_cl _ s [(h0, .inr (14, [.null, .null, .null, .null, .null, .null, .null, .null, .null, .null, .int 0, .int 0, .int 0, .int 0, .null])), (q1, .inr (15, [.null, .int 0, .int 0, .int 0, .null, .null, .null, .null, .null, .null, .null, .int 0, .long 0, .long 0, .long 0, .int 0, .int 0]))] [] H _ := I
  refine lv_dup hx hb d13_Tre_init_8 rfl ?_
  refine q_go (wr := [(h0, .inr (14, [.null, .null, .null, .null, .null, .null, .null, .null, .null, .null, .int 0, .int 0, .int 0, .int 0, .null]))]) (tyr := []) C I (q_siteIN (As := []) (rest := [.ref q1, .ref h0]) C rfl m13_30 m13_32 m13_31 ⟨by decide, by decide⟩ (Eq.trans (b := some 0) (by decide +kernel) rfl) rfl d13_Tre_init_9) (c_Cut_init l D q1) m13_31 m13_29 [1] [0] [] [] rfl rfl (by decide) (by decide) (by decide) rfl rfl hl.1 d13_Tre_init_9 (Nat.le_of_ble_eq_true rfl) (Nat.le_of_ble_eq_true rfl) (Nat.le_of_ble_eq_true rfl) (Nat.le_of_ble_eq_true rfl) (fun v w ty H locs hp I => ?_) (fun E w ty H locs q ce hp _ _ _ _ => ?_)
  rotate_left
  · obtain ⟨_, _, _, _, _, _, _, _, _, _, _, hv, -⟩ := hp; cases hv
  obtain ⟨q2, q3, q4, q5, q6, q7, q8, q9, cA10, cA11, cA12, hv, rfl, rfl⟩ := hp
  cases hv
  have I : q_I D q_cl _ s [(h0, .inr (14, [.null, .null, .null, .null, .null, .null, .null, .null, .null, .null, .int 0, .int 0, .int 0, .int 0, .null])), (q1, .inr (15, [.ref q2, .int 0, .int 0, .int 0, .ref q3, .ref q4, .ref q5, .ref q6, .ref q7, .ref q8, .ref q9, .int 0, .long 0, .long 0, .long 0, .int 0, .int 0])), (q3, .inl (cA10, 32800, .inl (fun _ => 0))), (q4, .inl (cA11, 32800, .inl (fun _ => 0))), (q5, .inl (cA12, 32800, .inl (fun _ => 0)))] [(cA10, .int), (cA11, .int), (cA12, .int)] H _ := I
  refine W.eq (g2 := F0 m 12 ls [.ref q1, .ref h0]) rfl ?_
  refine q_putF t_Tre t_Tre_ok n_Tre C hin I 0 0 rfl rfl i_Tre (by decide) m13_33 rfl rfl rfl rfl (Nat.le_of_ble_eq_true rfl) d13_Tre_init_12 (fun H locs I => ?_)
  have I : q_I D q_cl _ s [(h0, .inr (14, [.ref q1, .null, .null, .null, .null, .null, .null, .null, .null, .null, .int 0, .int 0, .int 0, .int 0, .null])), (q1, .inr (15, [.ref q2, .int 0, .int 0, .int 0, .ref q3, .ref q4, .ref q5, .ref q6, .ref q7, .ref q8, .ref q9, .int 0, .long 0, .long 0, .long 0, .int 0, .int 0])), (q3, .inl (cA10, 32800, .inl (fun _ => 0))), (q4, .inl (cA11, 32800, .inl (fun _ => 0))), (q5, .inl (cA12, 32800, .inl (fun _ => 0)))] [(cA10, .int), (cA11, .int), (cA12, .int)] H _ := I
  refine lv_aload_n hx hb d13_Tre_init_15 rfl (lv_at hl 0 rfl) ?_
  refine lv_ldc hx hb C.2.2.2.1 (C.2.2.2.2.1 _ m13_34) d13_Tre_init_16 ?_
  refine q_arrF (atype := .int) (66000, .inl (fun _ => 0)) t_Tre t_Tre_ok n_Tre C hin I 0 1 rfl rfl i_Tre (by decide) m13_35 rfl rfl rfl (Nat.le_of_ble_eq_true rfl) rfl m13_4 (fun _ => rfl) (by decide) (by decide) (by decide) (Nat.le_of_ble_eq_true rfl) (Nat.le_of_ble_eq_true rfl) d13_Tre_init_18 d13_Tre_init_20 (fun q13 H locs I => ?_)
  have I : q_I D q_cl _ s [(h0, .inr (14, [.ref q1, .ref q13, .null, .null, .null, .null, .null, .null, .null, .null, .int 0, .int 0, .int 0, .int 0, .null])), (q1, .inr (15, [.ref q2, .int 0, .int 0, .int 0, .ref q3, .ref q4, .ref q5, .ref q6, .ref q7, .ref q8, .ref q9, .int 0, .long 0, .long 0, .long 0, .int 0, .int 0])), (q3, .inl (cA10, 32800, .inl (fun _ => 0))), (q4, .inl (cA11, 32800, .inl (fun _ => 0))), (q5, .inl (cA12, 32800, .inl (fun _ => 0)))] [(cA10, .int), (cA11, .int), (cA12, .int)] H _ := I
  refine lv_aload_n hx hb d13_Tre_init_23 rfl (lv_at hl 0 rfl) ?_
  refine lv_ldc hx hb C.2.2.2.1 (C.2.2.2.2.1 _ m13_34) d13_Tre_init_24 ?_
  refine q_arrF (atype := .int) (66000, .inl (fun _ => 0)) t_Tre t_Tre_ok n_Tre C hin I 0 2 rfl rfl i_Tre (by decide) m13_36 rfl rfl rfl (Nat.le_of_ble_eq_true rfl) rfl m13_4 (fun _ => rfl) (by decide) (by decide) (by decide) (Nat.le_of_ble_eq_true rfl) (Nat.le_of_ble_eq_true rfl) d13_Tre_init_26 d13_Tre_init_28 (fun q14 H locs I => ?_)
  have I : q_I D q_cl _ s [(h0, .inr (14, [.ref q1, .ref q13, .ref q14, .null, .null, .null, .null, .null, .null, .null, .int 0, .int 0, .int 0, .int 0, .null])), (q1, .inr (15, [.ref q2, .int 0, .int 0, .int 0, .ref q3, .ref q4, .ref q5, .ref q6, .ref q7, .ref q8, .ref q9, .int 0, .long 0, .long 0, .long 0, .int 0, .int 0])), (q3, .inl (cA10, 32800, .inl (fun _ => 0))), (q4, .inl (cA11, 32800, .inl (fun _ => 0))), (q5, .inl (cA12, 32800, .inl (fun _ => 0)))] [(cA10, .int), (cA11, .int), (cA12, .int)] H _ := I
  refine lv_aload_n hx hb d13_Tre_init_31 rfl (lv_at hl 0 rfl) ?_
  refine lv_ldc hx hb C.2.2.2.1 (C.2.2.2.2.1 _ m13_34) d13_Tre_init_32 ?_
  refine q_arrF (atype := .int) (66000, .inl (fun _ => 0)) t_Tre t_Tre_ok n_Tre C hin I 0 3 rfl rfl i_Tre (by decide) m13_37 rfl rfl rfl (Nat.le_of_ble_eq_true rfl) rfl m13_4 (fun _ => rfl) (by decide) (by decide) (by decide) (Nat.le_of_ble_eq_true rfl) (Nat.le_of_ble_eq_true rfl) d13_Tre_init_34 d13_Tre_init_36 (fun q15 H locs I => ?_)
  have I : q_I D q_cl _ s [(h0, .inr (14, [.ref q1, .ref q13, .ref q14, .ref q15, .null, .null, .null, .null, .null, .null, .int 0, .int 0, .int 0, .int 0, .null])), (q1, .inr (15, [.ref q2, .int 0, .int 0, .int 0, .ref q3, .ref q4, .ref q5, .ref q6, .ref q7, .ref q8, .ref q9, .int 0, .long 0, .long 0, .long 0, .int 0, .int 0])), (q3, .inl (cA10, 32800, .inl (fun _ => 0))), (q4, .inl (cA11, 32800, .inl (fun _ => 0))), (q5, .inl (cA12, 32800, .inl (fun _ => 0)))] [(cA10, .int), (cA11, .int), (cA12, .int)] H _ := I
  refine lv_aload_n hx hb d13_Tre_init_39 rfl (lv_at hl 0 rfl) ?_
  refine lv_ldc hx hb C.2.2.2.1 (C.2.2.2.2.1 _ m13_34) d13_Tre_init_40 ?_
  refine q_arrF (atype := .int) (66000, .inl (fun _ => 0)) t_Tre t_Tre_ok n_Tre C hin I 0 4 rfl rfl i_Tre (by decide) m13_38 rfl rfl rfl (Nat.le_of_ble_eq_true rfl) rfl m13_4 (fun _ => rfl) (by decide) (by decide) (by decide) (Nat.le_of_ble_eq_true rfl) (Nat.le_of_ble_eq_true rfl) d13_Tre_init_42 d13_Tre_init_44 (fun q16 H locs I => ?_)
  have I : q_I D q_cl _ s [(h0, .inr (14, [.ref q1, .ref q13, .ref q14, .ref q15, .ref q16, .null, .null, .null, .null, .null, .int 0, .int 0, .int 0, .int 0, .null])), (q1, .inr (15, [.ref q2, .int 0, .int 0, .int 0, .ref q3, .ref q4, .ref q5, .ref q6, .ref q7, .ref q8, .ref q9, .int 0, .long 0, .long 0, .long 0, .int 0, .int 0])), (q3, .inl (cA10, 32800, .inl (fun _ => 0))), (q4, .inl (cA11, 32800, .inl (fun _ => 0))), (q5, .inl (cA12, 32800, .inl (fun _ => 0)))] [(cA10, .int), (cA11, .int), (cA12, .int)] H _ := I
  refine lv_aload_n hx hb d13_Tre_init_47 rfl (lv_at hl 0 rfl) ?_
  refine lv_ldc hx hb C.2.2.2.1 (C.2.2.2.2.1 _ m13_34) d13_Tre_init_48 ?_
  refine q_arrF (atype := .int) (66000, .inl (fun _ => 0)) t_Tre t_Tre_ok n_Tre C hin I 0 5 rfl rfl i_Tre (by decide) m13_39 rfl rfl rfl (Nat.le_of_ble_eq_true rfl) rfl m13_4 (fun _ => rfl) (by decide) (by decide) (by decide) (Nat.le_of_ble_eq_true rfl) (Nat.le_of_ble_eq_true rfl) d13_Tre_init_50 d13_Tre_init_52 (fun q17 H locs I => ?_)
  have I : q_I D q_cl _ s [(h0, .inr (14, [.ref q1, .ref q13, .ref q14, .ref q15, .ref q16, .ref q17, .null, .null, .null, .null, .int 0, .int 0, .int 0, .int 0, .null])), (q1, .inr (15, [.ref q2, .int 0, .int 0, .int 0, .ref q3, .ref q4, .ref q5, .ref q6, .ref q7, .ref q8, .ref q9, .int 0, .long 0, .long 0, .long 0, .int 0, .int 0])), (q3, .inl (cA10, 32800, .inl (fun _ => 0))), (q4, .inl (cA11, 32800, .inl (fun _ => 0))), (q5, .inl (cA12, 32800, .inl (fun _ => 0)))] [(cA10, .int), (cA11, .int), (cA12, .int)] H _ := I
  refine lv_aload_n hx hb d13_Tre_init_55 rfl (lv_at hl 0 rfl) ?_
  refine lv_ldc hx hb C.2.2.2.1 (C.2.2.2.2.1 _ m13_34) d13_Tre_init_56 ?_
  refine q_arrF (atype := .int) (66000, .inl (fun _ => 0)) t_Tre t_Tre_ok n_Tre C hin I 0 6 rfl rfl i_Tre (by decide) m13_40 rfl rfl rfl (Nat.le_of_ble_eq_true rfl) rfl m13_4 (fun _ => rfl) (by decide) (by decide) (by decide) (Nat.le_of_ble_eq_true rfl) (Nat.le_of_ble_eq_true rfl) d13_Tre_init_58 d13_Tre_init_60 (fun q18 H locs I => ?_)
  have I : q_I D q_cl _ s [(h0, .inr (14, [.ref q1, .ref q13, .ref q14, .ref q15, .ref q16, .ref q17, .ref q18, .null, .null, .null, .int 0, .int 0, .int 0, .int 0, .null])), (q1, .inr (15, [.ref q2, .int 0, .int 0, .int 0, .ref q3, .ref q4, .ref q5, .ref q6, .ref q7, .ref q8, .ref q9, .int 0, .long 0, .long 0, .long 0, .int 0, .int 0])), (q3, .inl (cA10, 32800, .inl (fun _ => 0))), (q4, .inl (cA11, 32800, .inl (fun _ => 0))), (q5, .inl (cA12, 32800, .inl (fun _ => 0)))] [(cA10, .int), (cA11, .int), (cA12, .int)] H _ := I
  refine lv_aload_n hx hb d13_Tre_init_63 rfl (lv_at hl 0 rfl) ?_
  refine lv_ldc hx hb C.2.2.2.1 (C.2.2.2.2.1 _ m13_34) d13_Tre_init_64 ?_
  refine q_arrF (atype := .int) (66000, .inl (fun _ => 0)) t_Tre t_Tre_ok n_Tre C hin I 0 7 rfl rfl i_Tre (by decide) m13_41 rfl rfl rfl (Nat.le_of_ble_eq_true rfl) rfl m13_4 (fun _ => rfl) (by decide) (by decide) (by decide) (Nat.le_of_ble_eq_true rfl) (Nat.le_of_ble_eq_true rfl) d13_Tre_init_66 d13_Tre_init_68 (fun q19 H locs I => ?_)
  have I : q_I D q_cl _ s [(h0, .inr (14, [.ref q1, .ref q13, .ref q14, .ref q15, .ref q16, .ref q17, .ref q18, .ref q19, .null, .null, .int 0, .int 0, .int 0, .int 0, .null])), (q1, .inr (15, [.ref q2, .int 0, .int 0, .int 0, .ref q3, .ref q4, .ref q5, .ref q6, .ref q7, .ref q8, .ref q9, .int 0, .long 0, .long 0, .long 0, .int 0, .int 0])), (q3, .inl (cA10, 32800, .inl (fun _ => 0))), (q4, .inl (cA11, 32800, .inl (fun _ => 0))), (q5, .inl (cA12, 32800, .inl (fun _ => 0)))] [(cA10, .int), (cA11, .int), (cA12, .int)] H _ := I
  refine lv_aload_n hx hb d13_Tre_init_71 rfl (lv_at hl 0 rfl) ?_
  refine lv_ldc hx hb C.2.2.2.1 (C.2.2.2.2.1 _ m13_34) d13_Tre_init_72 ?_
  refine q_arrF (atype := .int) (66000, .inl (fun _ => 0)) t_Tre t_Tre_ok n_Tre C hin I 0 8 rfl rfl i_Tre (by decide) m13_42 rfl rfl rfl (Nat.le_of_ble_eq_true rfl) rfl m13_4 (fun _ => rfl) (by decide) (by decide) (by decide) (Nat.le_of_ble_eq_true rfl) (Nat.le_of_ble_eq_true rfl) d13_Tre_init_74 d13_Tre_init_76 (fun q20 H locs I => ?_)
  have I : q_I D q_cl _ s [(h0, .inr (14, [.ref q1, .ref q13, .ref q14, .ref q15, .ref q16, .ref q17, .ref q18, .ref q19, .ref q20, .null, .int 0, .int 0, .int 0, .int 0, .null])), (q1, .inr (15, [.ref q2, .int 0, .int 0, .int 0, .ref q3, .ref q4, .ref q5, .ref q6, .ref q7, .ref q8, .ref q9, .int 0, .long 0, .long 0, .long 0, .int 0, .int 0])), (q3, .inl (cA10, 32800, .inl (fun _ => 0))), (q4, .inl (cA11, 32800, .inl (fun _ => 0))), (q5, .inl (cA12, 32800, .inl (fun _ => 0)))] [(cA10, .int), (cA11, .int), (cA12, .int)] H _ := I
  refine lv_aload_n hx hb d13_Tre_init_79 rfl (lv_at hl 0 rfl) ?_
  refine lv_ldc hx hb C.2.2.2.1 (C.2.2.2.2.1 _ m13_34) d13_Tre_init_80 ?_
  refine q_arrF (atype := .int) (66000, .inl (fun _ => 0)) t_Tre t_Tre_ok n_Tre C hin I 0 9 rfl rfl i_Tre (by decide) m13_43 rfl rfl rfl (Nat.le_of_ble_eq_true rfl) rfl m13_4 (fun _ => rfl) (by decide) (by decide) (by decide) (Nat.le_of_ble_eq_true rfl) (Nat.le_of_ble_eq_true rfl) d13_Tre_init_82 d13_Tre_init_84 (fun q21 H locs I => ?_)
  have I : q_I D q_cl _ s [(h0, .inr (14, [.ref q1, .ref q13, .ref q14, .ref q15, .ref q16, .ref q17, .ref q18, .ref q19, .ref q20, .ref q21, .int 0, .int 0, .int 0, .int 0, .null])), (q1, .inr (15, [.ref q2, .int 0, .int 0, .int 0, .ref q3, .ref q4, .ref q5, .ref q6, .ref q7, .ref q8, .ref q9, .int 0, .long 0, .long 0, .long 0, .int 0, .int 0])), (q3, .inl (cA10, 32800, .inl (fun _ => 0))), (q4, .inl (cA11, 32800, .inl (fun _ => 0))), (q5, .inl (cA12, 32800, .inl (fun _ => 0)))] [(cA10, .int), (cA11, .int), (cA12, .int)] H _ := I
  refine lv_aload_n hx hb d13_Tre_init_87 rfl (lv_at hl 0 rfl) ?_
  refine q_exnew t_Wro t_Wro_ok hl9 C I (ci := 16) rfl i_Wro fit_Wro fit_names m13_45 m13_46 m13_47 tw_Wro (fun H locs cells slots b => q_siteIN (As := []) (rest := [.ref b, .ref h0]) C rfl m13_44 m13_48 m13_49 ⟨by decide, by decide⟩ (Eq.trans (b := some 0) (by decide +kernel) rfl) rfl d13_Tre_init_92) hl.1 d13_Tre_init_88 d13_Tre_init_91 d13_Tre_init_92 (Nat.le_of_ble_eq_true rfl) (Nat.le_of_ble_eq_true rfl) (Nat.le_of_ble_eq_true rfl) (Nat.le_of_ble_eq_true rfl) (fun q22 fs23 H locs hfl hfd I => ?_)
  obtain ⟨vv24, vv25, vv26, vv27, vv28, vv29, vv30, vv31, rfl⟩ := q_len8 hfl
  obtain rfl : vv29 = .int 0 := Option.some.inj (hfd 5 (by decide) (by decide) (by decide) (by decide))
  obtain rfl : vv30 = .int 0 := Option.some.inj (hfd 6 (by decide) (by decide) (by decide) (by decide))
  have I : q_I D q_cl _ s [(h0, .inr (14, [.ref q1, .ref q13, .ref q14, .ref q15, .ref q16, .ref q17, .ref q18, .ref q19, .ref q20, .ref q21, .int 0, .int 0, .int 0, .int 0, .null])), (q1, .inr (15, [.ref q2, .int 0, .int 0, .int 0, .ref q3, .ref q4, .ref q5, .ref q6, .ref q7, .ref q8, .ref q9, .int 0, .long 0, .long 0, .long 0, .int 0, .int 0])), (q3, .inl (cA10, 32800, .inl (fun _ => 0))), (q4, .inl (cA11, 32800, .inl (fun _ => 0))), (q5, .inl (cA12, 32800, .inl (fun _ => 0))), (q22, .inr (16, [vv24, vv25, vv26, vv27, vv28, .int 0, .int 0, vv31]))] [(cA10, .int), (cA11, .int), (cA12, .int)] H _ := I
  refine q_putF t_Tre t_Tre_ok n_Tre C hin I 0 14 rfl rfl i_Tre (by decide) m13_50 rfl rfl rfl rfl (Nat.le_of_ble_eq_true rfl) d13_Tre_init_95 (fun H locs I => ?_)
  have I : q_I D q_cl _ s [(h0, .inr (14, [.ref q1, .ref q13, .ref q14, .ref q15, .ref q16, .ref q17, .ref q18, .ref q19, .ref q20, .ref q21, .int 0, .int 0, .int 0, .int 0, .ref q22])), (q1, .inr (15, [.ref q2, .int 0, .int 0, .int 0, .ref q3, .ref q4, .ref q5, .ref q6, .ref q7, .ref q8, .ref q9, .int 0, .long 0, .long 0, .long 0, .int 0, .int 0])), (q3, .inl (cA10, 32800, .inl (fun _ => 0))), (q4, .inl (cA11, 32800, .inl (fun _ => 0))), (q5, .inl (cA12, 32800, .inl (fun _ => 0))), (q22, .inr (16, [vv24, vv25, vv26, vv27, vv28, .int 0, .int 0, vv31]))] [(cA10, .int), (cA11, .int), (cA12, .int)] H _ := I
  have I : q_I D q_cl _ s [(h0, .inr (14, [.ref q1, .ref q13, .ref q14, .ref q15, .ref q16, .ref q17, .ref q18, .ref q19, .ref q20, .ref q21, .int 0, .int 0, .int 0, .int 0, .ref q22])), (q1, .inr (15, [.ref q2, .int 0, .int 0, .int 0, .ref q3, .ref q4, .ref q5, .ref q6, .ref q7, .ref q8, .ref q9, .int 0, .long 0, .long 0, .long 0, .int 0, .int 0])), (q3, .inl (cA10, 32800, .inl (fun _ => 0))), (q4, .inl (cA11, 32800, .inl (fun _ => 0))), (q5, .inl (cA12, 32800, .inl (fun _ => 0))), (q22, .inr (16, [vv24, vv25, vv26, vv27, vv28, .int 0, .int 0, vv31]))] [(cA10, .int), (cA11, .int), (cA12, .int)] H _ := q_pick I [0, 1, 2, 3, 4, 5] [0, 1, 2] rfl (by decide) rfl
  exact q_vret C hr I ⟨q1, q13, q14, q15, q16, q17, q18, q19, q20, q21, q22, q2, q3, q4, q5, q6, q7, q8, q9, cA10, cA11, cA12, vv24, vv25, vv26, vv27, vv28, vv31, rfl, rfl, rfl⟩ (Nat.le_of_ble_eq_true rfl) (Nat.le_of_ble_eq_true rfl) d13_Tre_init_98
