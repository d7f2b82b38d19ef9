set_option maxRecDepth 20000 in
theorem m24_0 : (Cond.fieldLink "SignalTheatre$Builder" 55 "SignalTheatre$Builder" "circuit" "LSignalTheatre$Circuit;" : Cond) ∈ q_big := q_m3 (List.mem_of_getElem? (i := 124) rfl) rfl
set_option maxRecDepth 20000 in
theorem m24_1 : (Cond.fieldLink "SignalTheatre$Builder" 43 "SignalTheatre$Builder" "faults" "LSignalTheatre$Faults;" : Cond) ∈ q_big := q_m3 (List.mem_of_getElem? (i := 121) rfl) rfl
set_option maxRecDepth 20000 in
theorem m24_2 : (Cond.methodLink "SignalTheatre$Builder" 59 ⟨"SignalTheatre$Faults", "forget", "()V"⟩ : Cond) ∈ q_big := q_m5 (List.mem_of_getElem? (i := 13) rfl) rfl
set_option maxRecDepth 20000 in
theorem m24_3 : (Cond.code ⟨"SignalTheatre$Faults", "forget", "()V"⟩ prog_7_method_6_code 1 none : Cond) ∈ q_big := q_m5 (List.mem_of_getElem? (i := 16) rfl) rfl
set_option maxRecDepth 20000 in
theorem m24_4 : (Cond.instanceMethod ⟨"SignalTheatre$Faults", "forget", "()V"⟩ : Cond) ∈ q_big := q_m5 (List.mem_of_getElem? (i := 14) rfl) rfl
set_option maxRecDepth 20000 in
theorem m24_5 : (Cond.selects "SignalTheatre$Faults" ⟨"SignalTheatre$Faults", "forget", "()V"⟩ ⟨"SignalTheatre$Faults", "forget", "()V"⟩ : Cond) ∈ q_big := q_m5 (List.mem_of_getElem? (i := 15) rfl) rfl
set_option maxRecDepth 20000 in
theorem m24_6 : (Cond.initialized "SignalTheatre$Faults" : Cond) ∈ q_big := q_m1 (List.mem_of_getElem? (i := 3) rfl) rfl
set_option maxRecDepth 20000 in
theorem m24_7 : (Cond.fieldLink "SignalTheatre$Builder" 39 "SignalTheatre$Builder" "tokens" "LSignalTheatre$Tokens;" : Cond) ∈ q_big := q_m3 (List.mem_of_getElem? (i := 120) rfl) rfl
set_option maxRecDepth 20000 in
theorem m24_8 : (Cond.fieldLink "SignalTheatre$Builder" 64 "SignalTheatre$Circuit" "text" "[B" : Cond) ∈ q_big := q_m3 (List.mem_of_getElem? (i := 21) rfl) rfl
set_option maxRecDepth 20000 in
theorem m24_9 : (Cond.methodLink "SignalTheatre$Builder" 70 ⟨"SignalTheatre$Tokens", "cut", "([BI)V"⟩ : Cond) ∈ q_big := q_m5 (List.mem_of_getElem? (i := 17) rfl) rfl
set_option maxRecDepth 20000 in
theorem m24_10 : (Cond.code ⟨"SignalTheatre$Tokens", "cut", "([BI)V"⟩ prog_12_method_2_code 6 none : Cond) ∈ q_big := q_m5 (List.mem_of_getElem? (i := 20) rfl) rfl
set_option maxRecDepth 20000 in
theorem m24_11 : (Cond.instanceMethod ⟨"SignalTheatre$Tokens", "cut", "([BI)V"⟩ : Cond) ∈ q_big := q_m5 (List.mem_of_getElem? (i := 18) rfl) rfl
set_option maxRecDepth 20000 in
theorem m24_12 : (Cond.selects "SignalTheatre$Tokens" ⟨"SignalTheatre$Tokens", "cut", "([BI)V"⟩ ⟨"SignalTheatre$Tokens", "cut", "([BI)V"⟩ : Cond) ∈ q_big := q_m5 (List.mem_of_getElem? (i := 19) rfl) rfl
set_option maxRecDepth 20000 in
theorem m24_13 : (Cond.initialized "SignalTheatre$Tokens" : Cond) ∈ q_big := q_m1 (List.mem_of_getElem? (i := 2) rfl) rfl
set_option maxRecDepth 20000 in
theorem m24_14 : (Cond.fieldLink "SignalTheatre$Builder" 27 "SignalTheatre$Builder" "instantiated" "[I" : Cond) ∈ q_big := q_m3 (List.mem_of_getElem? (i := 129) rfl) rfl
set_option maxRecDepth 20000 in
theorem m24_15 : (Cond.fieldLink "SignalTheatre$Builder" 74 "SignalTheatre$Tokens" "names" "I" : Cond) ∈ q_big := q_m1 (List.mem_of_getElem? (i := 82) rfl) rfl
set_option maxRecDepth 20000 in
theorem m24_16 : (Cond.methodLink "SignalTheatre$Builder" 78 ⟨"java/util/Arrays", "fill", "([IIII)V"⟩ : Cond) ∈ q_big := q_m5 (List.mem_of_getElem? (i := 238) rfl) rfl
set_option maxRecDepth 20000 in
theorem m24_17 : (Cond.code ⟨"java/util/Arrays", "fill", "([IIII)V"⟩ prog_39_method_104_code 5 none : Cond) ∈ q_big := q_m6 (List.mem_of_getElem? (i := 0) rfl) rfl
set_option maxRecDepth 20000 in
theorem m24_18 : (Cond.static ⟨"java/util/Arrays", "fill", "([IIII)V"⟩ : Cond) ∈ q_big := q_m5 (List.mem_of_getElem? (i := 239) rfl) rfl
set_option maxRecDepth 20000 in
theorem m24_19 : (Cond.initialized "java/util/Arrays" : Cond) ∈ q_big := q_m1 (List.mem_of_getElem? (i := 26) rfl) rfl
set_option maxRecDepth 20000 in
theorem m24_20 : (Cond.fieldLink "SignalTheatre$Builder" 47 "SignalTheatre$Builder" "maker" "LSignalTheatre$Maker;" : Cond) ∈ q_big := q_m3 (List.mem_of_getElem? (i := 122) rfl) rfl
set_option maxRecDepth 20000 in
theorem m24_21 : (Cond.methodLink "SignalTheatre$Builder" 84 ⟨"SignalTheatre$Maker", "open", "(LSignalTheatre$Circuit;)V"⟩ : Cond) ∈ q_big := q_m7 (List.mem_of_getElem? (i := 1) rfl) rfl
set_option maxRecDepth 20000 in
theorem m24_22 : (Cond.code ⟨"SignalTheatre$Maker", "open", "(LSignalTheatre$Circuit;)V"⟩ prog_8_method_2_code 2 none : Cond) ∈ q_big := q_m7 (List.mem_of_getElem? (i := 4) rfl) rfl
set_option maxRecDepth 20000 in
theorem m24_23 : (Cond.instanceMethod ⟨"SignalTheatre$Maker", "open", "(LSignalTheatre$Circuit;)V"⟩ : Cond) ∈ q_big := q_m7 (List.mem_of_getElem? (i := 2) rfl) rfl
set_option maxRecDepth 20000 in
theorem m24_24 : (Cond.selects "SignalTheatre$Maker" ⟨"SignalTheatre$Maker", "open", "(LSignalTheatre$Circuit;)V"⟩ ⟨"SignalTheatre$Maker", "open", "(LSignalTheatre$Circuit;)V"⟩ : Cond) ∈ q_big := q_m7 (List.mem_of_getElem? (i := 3) rfl) rfl
set_option maxRecDepth 20000 in
theorem m24_25 : (Cond.initialized "SignalTheatre$Maker" : Cond) ∈ q_big := q_m1 (List.mem_of_getElem? (i := 4) rfl) rfl
set_option maxRecDepth 20000 in
theorem m24_26 : (Cond.methodLink "SignalTheatre$Builder" 90 ⟨"SignalTheatre$Maker", "turn", "(Z)V"⟩ : Cond) ∈ q_big := q_m7 (List.mem_of_getElem? (i := 6) rfl) rfl
set_option maxRecDepth 20000 in
theorem m24_27 : (Cond.code ⟨"SignalTheatre$Maker", "turn", "(Z)V"⟩ prog_8_method_3_code 2 none : Cond) ∈ q_big := q_m7 (List.mem_of_getElem? (i := 9) rfl) rfl
set_option maxRecDepth 20000 in
theorem m24_28 : (Cond.instanceMethod ⟨"SignalTheatre$Maker", "turn", "(Z)V"⟩ : Cond) ∈ q_big := q_m7 (List.mem_of_getElem? (i := 7) rfl) rfl
set_option maxRecDepth 20000 in
theorem m24_29 : (Cond.selects "SignalTheatre$Maker" ⟨"SignalTheatre$Maker", "turn", "(Z)V"⟩ ⟨"SignalTheatre$Maker", "turn", "(Z)V"⟩ : Cond) ∈ q_big := q_m7 (List.mem_of_getElem? (i := 8) rfl) rfl
set_option maxRecDepth 20000 in
theorem m24_30 : (Cond.fieldLink "SignalTheatre$Builder" 51 "SignalTheatre$Builder" "reader" "LSignalTheatre$Reader;" : Cond) ∈ q_big := q_m3 (List.mem_of_getElem? (i := 123) rfl) rfl
set_option maxRecDepth 20000 in
theorem m24_31 : (Cond.methodLink "SignalTheatre$Builder" 94 ⟨"SignalTheatre$Reader", "begin", "()V"⟩ : Cond) ∈ q_big := q_m7 (List.mem_of_getElem? (i := 10) rfl) rfl
set_option maxRecDepth 20000 in
theorem m24_32 : (Cond.code ⟨"SignalTheatre$Reader", "begin", "()V"⟩ prog_9_method_2_code 1 none : Cond) ∈ q_big := q_m7 (List.mem_of_getElem? (i := 13) rfl) rfl
set_option maxRecDepth 20000 in
theorem m24_33 : (Cond.instanceMethod ⟨"SignalTheatre$Reader", "begin", "()V"⟩ : Cond) ∈ q_big := q_m7 (List.mem_of_getElem? (i := 11) rfl) rfl
set_option maxRecDepth 20000 in
theorem m24_34 : (Cond.selects "SignalTheatre$Reader" ⟨"SignalTheatre$Reader", "begin", "()V"⟩ ⟨"SignalTheatre$Reader", "begin", "()V"⟩ : Cond) ∈ q_big := q_m7 (List.mem_of_getElem? (i := 12) rfl) rfl
set_option maxRecDepth 20000 in
theorem m24_35 : (Cond.initialized "SignalTheatre$Reader" : Cond) ∈ q_big := q_m1 (List.mem_of_getElem? (i := 6) rfl) rfl
set_option maxRecDepth 20000 in
theorem m24_36 : (Cond.fieldLink "SignalTheatre$Builder" 99 "SignalTheatre$Builder" "modules" "I" : Cond) ∈ q_big := q_m3 (List.mem_of_getElem? (i := 128) rfl) rfl
set_option maxRecDepth 20000 in
theorem m24_37 : (Cond.fieldLink "SignalTheatre$Builder" 102 "SignalTheatre$Builder" "inside" "Z" : Cond) ∈ q_big := q_m3 (List.mem_of_getElem? (i := 130) rfl) rfl
set_option maxRecDepth 20000 in
theorem m24_38 : (Cond.fieldLink "SignalTheatre$Builder" 106 "SignalTheatre$Builder" "done" "Z" : Cond) ∈ q_big := q_m3 (List.mem_of_getElem? (i := 131) rfl) rfl
set_option maxRecDepth 20000 in
theorem m24_39 : (Cond.fieldLink "SignalTheatre$Reader" 15 "SignalTheatre$Reader" "tokens" "LSignalTheatre$Tokens;" : Cond) ∈ q_big := q_m2 (List.mem_of_getElem? (i := 38) rfl) rfl
set_option maxRecDepth 20000 in
theorem m24_40 : (Cond.fieldLink "SignalTheatre$Reader" 37 "SignalTheatre$Tokens" "kind" "[I" : Cond) ∈ q_big := q_m1 (List.mem_of_getElem? (i := 60) rfl) rfl
set_option maxRecDepth 20000 in
theorem m24_41 : (Cond.fieldLink "SignalTheatre$Reader" 27 "SignalTheatre$Reader" "at" "I" : Cond) ∈ q_big := q_m2 (List.mem_of_getElem? (i := 43) rfl) rfl
set_option maxRecDepth 20000 in
theorem m24_42 : (Cond.fieldLink "SignalTheatre$Builder" 155 "SignalTheatre$Maker" "on" "Z" : Cond) ∈ q_big := q_m1 (List.mem_of_getElem? (i := 216) rfl) rfl
set_option maxRecDepth 20000 in
theorem m24_43 : (Cond.fieldLink "SignalTheatre$Builder" 18 "SignalTheatre$Builder" "moduleStart" "[I" : Cond) ∈ q_big := q_m3 (List.mem_of_getElem? (i := 126) rfl) rfl
set_option maxRecDepth 20000 in
theorem m24_44 : (Cond.fieldLink "SignalTheatre$Builder" 129 "SignalTheatre$Reader" "at" "I" : Cond) ∈ q_big := q_m2 (List.mem_of_getElem? (i := 44) rfl) rfl
set_option maxRecDepth 20000 in
theorem m24_45 : (Cond.fieldLink "SignalTheatre$Faults" 39 "SignalTheatre$Faults" "number" "I" : Cond) ∈ q_big := q_m1 (List.mem_of_getElem? (i := 145) rfl) rfl
set_option maxRecDepth 20000 in
theorem m24_46 : (Cond.fieldLink "SignalTheatre$Faults" 7 "SignalTheatre$Faults" "place" "I" : Cond) ∈ q_big := q_m1 (List.mem_of_getElem? (i := 147) rfl) rfl
set_option maxRecDepth 20000 in
theorem m24_47 : (Cond.classLink "SignalTheatre$Faults" 42 "java/lang/IllegalStateException" : Cond) ∈ q_big := q_m7 (List.mem_of_getElem? (i := 42) rfl) rfl
set_option maxRecDepth 20000 in
theorem m24_48 : (Cond.initialized "java/lang/IllegalStateException" : Cond) ∈ q_big := q_m1 (List.mem_of_getElem? (i := 38) rfl) rfl
set_option maxRecDepth 20000 in
theorem m24_49 : (Cond.methodLink "SignalTheatre$Faults" 44 ⟨"java/lang/IllegalStateException", "<init>", "()V"⟩ : Cond) ∈ q_big := q_m7 (List.mem_of_getElem? (i := 51) rfl) rfl
set_option maxRecDepth 20000 in
theorem m24_50 : (Cond.fieldLink "SignalTheatre$Reader" 19 "SignalTheatre$Reader" "faults" "LSignalTheatre$Faults;" : Cond) ∈ q_big := q_m2 (List.mem_of_getElem? (i := 39) rfl) rfl
set_option maxRecDepth 20000 in
theorem m24_51 : (Cond.fieldLink "SignalTheatre$Reader" 45 "SignalTheatre$Tokens" "place" "[I" : Cond) ∈ q_big := q_m1 (List.mem_of_getElem? (i := 64) rfl) rfl
set_option maxRecDepth 20000 in
theorem m24_52 : (Cond.methodLink "SignalTheatre$Reader" 48 ⟨"SignalTheatre$Faults", "refuse", "(II)V"⟩ : Cond) ∈ q_big := q_m7 (List.mem_of_getElem? (i := 38) rfl) rfl
set_option maxRecDepth 20000 in
theorem m24_53 : (Cond.code ⟨"SignalTheatre$Faults", "refuse", "(II)V"⟩ prog_7_method_5_code 3 none : Cond) ∈ q_big := q_m7 (List.mem_of_getElem? (i := 41) rfl) rfl
set_option maxRecDepth 20000 in
theorem m24_54 : (Cond.instanceMethod ⟨"SignalTheatre$Faults", "refuse", "(II)V"⟩ : Cond) ∈ q_big := q_m7 (List.mem_of_getElem? (i := 39) rfl) rfl
set_option maxRecDepth 20000 in
theorem m24_55 : (Cond.selects "SignalTheatre$Faults" ⟨"SignalTheatre$Faults", "refuse", "(II)V"⟩ ⟨"SignalTheatre$Faults", "refuse", "(II)V"⟩ : Cond) ∈ q_big := q_m7 (List.mem_of_getElem? (i := 40) rfl) rfl
set_option maxRecDepth 20000 in
theorem m24_56 : (Cond.methodLink "SignalTheatre$Builder" 171 ⟨"SignalTheatre$Reader", "take", "(I)I"⟩ : Cond) ∈ q_big := q_m7 (List.mem_of_getElem? (i := 34) rfl) rfl
set_option maxRecDepth 20000 in
theorem m24_57 : (Cond.code ⟨"SignalTheatre$Reader", "take", "(I)I"⟩ prog_9_method_5_code 2 (Option.some FieldType.int) : Cond) ∈ q_big := q_m7 (List.mem_of_getElem? (i := 37) rfl) rfl
set_option maxRecDepth 20000 in
theorem m24_58 : (Cond.instanceMethod ⟨"SignalTheatre$Reader", "take", "(I)I"⟩ : Cond) ∈ q_big := q_m7 (List.mem_of_getElem? (i := 35) rfl) rfl
set_option maxRecDepth 20000 in
theorem m24_59 : (Cond.selects "SignalTheatre$Reader" ⟨"SignalTheatre$Reader", "take", "(I)I"⟩ ⟨"SignalTheatre$Reader", "take", "(I)I"⟩ : Cond) ∈ q_big := q_m7 (List.mem_of_getElem? (i := 36) rfl) rfl
set_option maxRecDepth 20000 in
theorem m24_60 : (Cond.methodLink "SignalTheatre$Builder" 146 ⟨"SignalTheatre$Reader", "kind", "()I"⟩ : Cond) ∈ q_big := q_m7 (List.mem_of_getElem? (i := 22) rfl) rfl
set_option maxRecDepth 20000 in
theorem m24_61 : (Cond.code ⟨"SignalTheatre$Reader", "kind", "()I"⟩ prog_9_method_3_code 1 (Option.some FieldType.int) : Cond) ∈ q_big := q_m7 (List.mem_of_getElem? (i := 25) rfl) rfl
set_option maxRecDepth 20000 in
theorem m24_62 : (Cond.instanceMethod ⟨"SignalTheatre$Reader", "kind", "()I"⟩ : Cond) ∈ q_big := q_m7 (List.mem_of_getElem? (i := 23) rfl) rfl
set_option maxRecDepth 20000 in
theorem m24_63 : (Cond.selects "SignalTheatre$Reader" ⟨"SignalTheatre$Reader", "kind", "()I"⟩ ⟨"SignalTheatre$Reader", "kind", "()I"⟩ : Cond) ∈ q_big := q_m7 (List.mem_of_getElem? (i := 24) rfl) rfl
set_option maxRecDepth 20000 in
theorem m24_64 : (Cond.methodLink "SignalTheatre$Builder" 149 ⟨"SignalTheatre$Builder", "noteStart", "()V"⟩ : Cond) ∈ q_big := q_m7 (List.mem_of_getElem? (i := 26) rfl) rfl
set_option maxRecDepth 20000 in
theorem m24_65 : (Cond.code ⟨"SignalTheatre$Builder", "noteStart", "()V"⟩ prog_4_method_8_code 1 none : Cond) ∈ q_big := q_m7 (List.mem_of_getElem? (i := 29) rfl) rfl
set_option maxRecDepth 20000 in
theorem m24_66 : (Cond.instanceMethod ⟨"SignalTheatre$Builder", "noteStart", "()V"⟩ : Cond) ∈ q_big := q_m7 (List.mem_of_getElem? (i := 28) rfl) rfl
set_option maxRecDepth 20000 in
theorem m24_67 : (Cond.selects "SignalTheatre$Builder" ⟨"SignalTheatre$Builder", "noteStart", "()V"⟩ ⟨"SignalTheatre$Builder", "noteStart", "()V"⟩ : Cond) ∈ q_big := q_sel (q := (⟨"SignalTheatre$Builder", "noteStart", "()V"⟩, 18)) (List.mem_of_getElem? (i := 5) rfl)
set_option maxRecDepth 20000 in
theorem m24_68 : (Cond.initialized "SignalTheatre$Builder" : Cond) ∈ q_big := q_m1 (List.mem_of_getElem? (i := 10) rfl) rfl
set_option maxRecDepth 20000 in
theorem m24_69 : (Cond.methodLink "SignalTheatre$Builder" 152 ⟨"SignalTheatre$Builder", "head", "()V"⟩ : Cond) ∈ q_big := q_m7 (List.mem_of_getElem? (i := 30) rfl) rfl
set_option maxRecDepth 20000 in
theorem m24_70 : (Cond.code ⟨"SignalTheatre$Builder", "head", "()V"⟩ prog_4_method_9_code 2 none : Cond) ∈ q_big := q_m7 (List.mem_of_getElem? (i := 33) rfl) rfl
set_option maxRecDepth 20000 in
theorem m24_71 : (Cond.instanceMethod ⟨"SignalTheatre$Builder", "head", "()V"⟩ : Cond) ∈ q_big := q_m7 (List.mem_of_getElem? (i := 32) rfl) rfl
set_option maxRecDepth 20000 in
theorem m24_72 : (Cond.selects "SignalTheatre$Builder" ⟨"SignalTheatre$Builder", "head", "()V"⟩ ⟨"SignalTheatre$Builder", "head", "()V"⟩ : Cond) ∈ q_big := q_sel (q := (⟨"SignalTheatre$Builder", "head", "()V"⟩, 18)) (List.mem_of_getElem? (i := 6) rfl)
set_option maxRecDepth 20000 in
theorem m24_73 : (Cond.fieldLink "SignalTheatre" 75 "SignalTheatre" "length" "I" : Cond) ∈ q_big := q_m4 (List.mem_of_getElem? (i := 92) rfl) rfl
set_option maxRecDepth 20000 in
theorem m24_74 : (Cond.fieldLink "SignalTheatre" 42 "SignalTheatre" "spare" "LSignalTheatre$Circuit;" : Cond) ∈ q_big := q_m4 (List.mem_of_getElem? (i := 95) rfl) rfl
set_option maxRecDepth 20000 in
theorem m24_75 : (Cond.fieldLink "SignalTheatre" 10 "SignalTheatre" "input" "[B" : Cond) ∈ q_big := q_m4 (List.mem_of_getElem? (i := 91) rfl) rfl
set_option maxRecDepth 20000 in
theorem m24_76 : (Cond.methodLink "SignalTheatre" 89 ⟨"SignalTheatre$Circuit", "clear", "([BI)V"⟩ : Cond) ∈ q_big := q_m4 (List.mem_of_getElem? (i := 238) rfl) rfl
set_option maxRecDepth 20000 in
theorem m24_77 : (Cond.code ⟨"SignalTheatre$Circuit", "clear", "([BI)V"⟩ prog_5_method_2_code 3 none : Cond) ∈ q_big := q_m5 (List.mem_of_getElem? (i := 1) rfl) rfl
set_option maxRecDepth 20000 in
theorem m24_78 : (Cond.instanceMethod ⟨"SignalTheatre$Circuit", "clear", "([BI)V"⟩ : Cond) ∈ q_big := q_m4 (List.mem_of_getElem? (i := 239) rfl) rfl
set_option maxRecDepth 20000 in
theorem m24_79 : (Cond.selects "SignalTheatre$Circuit" ⟨"SignalTheatre$Circuit", "clear", "([BI)V"⟩ ⟨"SignalTheatre$Circuit", "clear", "([BI)V"⟩ : Cond) ∈ q_big := q_m5 (List.mem_of_getElem? (i := 0) rfl) rfl
set_option maxRecDepth 20000 in
theorem m24_80 : (Cond.initialized "SignalTheatre$Circuit" : Cond) ∈ q_big := q_m1 (List.mem_of_getElem? (i := 7) rfl) rfl
set_option maxRecDepth 20000 in
theorem m24_81 : (Cond.fieldLink "SignalTheatre" 54 "SignalTheatre" "builder" "LSignalTheatre$Builder;" : Cond) ∈ q_big := q_m4 (List.mem_of_getElem? (i := 97) rfl) rfl
set_option maxRecDepth 20000 in
theorem m24_82 : (Cond.methodLink "SignalTheatre" 93 ⟨"SignalTheatre$Builder", "open", "(LSignalTheatre$Circuit;I)V"⟩ : Cond) ∈ q_big := q_m5 (List.mem_of_getElem? (i := 9) rfl) rfl
set_option maxRecDepth 20000 in
theorem m24_83 : (Cond.code ⟨"SignalTheatre$Builder", "open", "(LSignalTheatre$Circuit;I)V"⟩ prog_4_method_2_code 3 none : Cond) ∈ q_big := q_m5 (List.mem_of_getElem? (i := 12) rfl) rfl
set_option maxRecDepth 20000 in
theorem m24_84 : (Cond.instanceMethod ⟨"SignalTheatre$Builder", "open", "(LSignalTheatre$Circuit;I)V"⟩ : Cond) ∈ q_big := q_m5 (List.mem_of_getElem? (i := 10) rfl) rfl
set_option maxRecDepth 20000 in
theorem m24_85 : (Cond.selects "SignalTheatre$Builder" ⟨"SignalTheatre$Builder", "open", "(LSignalTheatre$Circuit;I)V"⟩ ⟨"SignalTheatre$Builder", "open", "(LSignalTheatre$Circuit;I)V"⟩ : Cond) ∈ q_big := q_m5 (List.mem_of_getElem? (i := 11) rfl) rfl
set_option maxRecDepth 20000 in
theorem m24_86 : (Cond.constant "SignalTheatre" 9 (32768) : Cond) ∈ q_big := q_m1 (List.mem_of_getElem? (i := 49) rfl) rfl
set_option maxRecDepth 20000 in
theorem m24_87 : (Cond.methodLink "SignalTheatre" 97 ⟨"SignalTheatre$Builder", "isOpen", "()Z"⟩ : Cond) ∈ q_big := q_m7 (List.mem_of_getElem? (i := 14) rfl) rfl
set_option maxRecDepth 20000 in
theorem m24_88 : (Cond.code ⟨"SignalTheatre$Builder", "isOpen", "()Z"⟩ prog_4_method_3_code 1 (Option.some FieldType.boolean) : Cond) ∈ q_big := q_m7 (List.mem_of_getElem? (i := 17) rfl) rfl
set_option maxRecDepth 20000 in
theorem m24_89 : (Cond.instanceMethod ⟨"SignalTheatre$Builder", "isOpen", "()Z"⟩ : Cond) ∈ q_big := q_m7 (List.mem_of_getElem? (i := 15) rfl) rfl
set_option maxRecDepth 20000 in
theorem m24_90 : (Cond.selects "SignalTheatre$Builder" ⟨"SignalTheatre$Builder", "isOpen", "()Z"⟩ ⟨"SignalTheatre$Builder", "isOpen", "()Z"⟩ : Cond) ∈ q_big := q_m7 (List.mem_of_getElem? (i := 16) rfl) rfl
set_option maxRecDepth 20000 in
theorem m24_91 : (Cond.methodLink "SignalTheatre" 101 ⟨"SignalTheatre$Builder", "item", "()V"⟩ : Cond) ∈ q_big := q_m7 (List.mem_of_getElem? (i := 18) rfl) rfl
set_option maxRecDepth 20000 in
theorem m24_92 : (Cond.code ⟨"SignalTheatre$Builder", "item", "()V"⟩ prog_4_method_7_code 3 none : Cond) ∈ q_big := q_m7 (List.mem_of_getElem? (i := 21) rfl) rfl
set_option maxRecDepth 20000 in
theorem m24_93 : (Cond.instanceMethod ⟨"SignalTheatre$Builder", "item", "()V"⟩ : Cond) ∈ q_big := q_m7 (List.mem_of_getElem? (i := 19) rfl) rfl
set_option maxRecDepth 20000 in
theorem m24_94 : (Cond.selects "SignalTheatre$Builder" ⟨"SignalTheatre$Builder", "item", "()V"⟩ ⟨"SignalTheatre$Builder", "item", "()V"⟩ : Cond) ∈ q_big := q_m7 (List.mem_of_getElem? (i := 20) rfl) rfl
theorem d24_Bui_open_0 : decode prog_4_method_2_code 0 = .ok (.aload_n 0, 1) := by decide +kernel
theorem d24_Bui_open_1 : decode prog_4_method_2_code 1 = .ok (.aload_n 1, 1) := by decide +kernel
theorem d24_Bui_open_2 : decode prog_4_method_2_code 2 = .ok (.putfield 55, 3) := by decide +kernel
theorem d24_Bui_open_5 : decode prog_4_method_2_code 5 = .ok (.aload_n 0, 1) := by decide +kernel
theorem d24_Bui_open_6 : decode prog_4_method_2_code 6 = .ok (.getfield 43, 3) := by decide +kernel
theorem d24_Bui_open_9 : decode prog_4_method_2_code 9 = .ok (.invokevirtual 59, 3) := by decide +kernel
theorem d24_Bui_open_12 : decode prog_4_method_2_code 12 = .ok (.aload_n 0, 1) := by decide +kernel
theorem d24_Bui_open_13 : decode prog_4_method_2_code 13 = .ok (.getfield 39, 3) := by decide +kernel
theorem d24_Bui_open_16 : decode prog_4_method_2_code 16 = .ok (.aload_n 1, 1) := by decide +kernel
theorem d24_Bui_open_17 : decode prog_4_method_2_code 17 = .ok (.getfield 64, 3) := by decide +kernel
theorem d24_Bui_open_20 : decode prog_4_method_2_code 20 = .ok (.iload_n 2, 1) := by decide +kernel
theorem d24_Bui_open_21 : decode prog_4_method_2_code 21 = .ok (.invokevirtual 70, 3) := by decide +kernel
theorem d24_Bui_open_24 : decode prog_4_method_2_code 24 = .ok (.aload_n 0, 1) := by decide +kernel
theorem d24_Bui_open_25 : decode prog_4_method_2_code 25 = .ok (.getfield 27, 3) := by decide +kernel
theorem d24_Bui_open_28 : decode prog_4_method_2_code 28 = .ok (.iconst 0, 1) := by decide +kernel
theorem d24_Bui_open_29 : decode prog_4_method_2_code 29 = .ok (.aload_n 0, 1) := by decide +kernel
theorem d24_Bui_open_30 : decode prog_4_method_2_code 30 = .ok (.getfield 39, 3) := by decide +kernel
theorem d24_Bui_open_33 : decode prog_4_method_2_code 33 = .ok (.getfield 74, 3) := by decide +kernel
theorem d24_Bui_open_36 : decode prog_4_method_2_code 36 = .ok (.iconst 0, 1) := by decide +kernel
theorem d24_Bui_open_37 : decode prog_4_method_2_code 37 = .ok (.invokestatic 78, 3) := by decide +kernel
theorem d24_Bui_open_40 : decode prog_4_method_2_code 40 = .ok (.aload_n 0, 1) := by decide +kernel
theorem d24_Bui_open_41 : decode prog_4_method_2_code 41 = .ok (.getfield 47, 3) := by decide +kernel
theorem d24_Bui_open_44 : decode prog_4_method_2_code 44 = .ok (.aload_n 1, 1) := by decide +kernel
theorem d24_Bui_open_45 : decode prog_4_method_2_code 45 = .ok (.invokevirtual 84, 3) := by decide +kernel
theorem d24_Bui_open_48 : decode prog_4_method_2_code 48 = .ok (.aload_n 0, 1) := by decide +kernel
theorem d24_Bui_open_49 : decode prog_4_method_2_code 49 = .ok (.getfield 47, 3) := by decide +kernel
theorem d24_Bui_open_52 : decode prog_4_method_2_code 52 = .ok (.iconst 0, 1) := by decide +kernel
theorem d24_Bui_open_53 : decode prog_4_method_2_code 53 = .ok (.invokevirtual 90, 3) := by decide +kernel
theorem d24_Bui_open_56 : decode prog_4_method_2_code 56 = .ok (.aload_n 0, 1) := by decide +kernel
theorem d24_Bui_open_57 : decode prog_4_method_2_code 57 = .ok (.getfield 51, 3) := by decide +kernel
theorem d24_Bui_open_60 : decode prog_4_method_2_code 60 = .ok (.invokevirtual 94, 3) := by decide +kernel
theorem d24_Bui_open_63 : decode prog_4_method_2_code 63 = .ok (.aload_n 0, 1) := by decide +kernel
theorem d24_Bui_open_64 : decode prog_4_method_2_code 64 = .ok (.iconst 0, 1) := by decide +kernel
theorem d24_Bui_open_65 : decode prog_4_method_2_code 65 = .ok (.putfield 99, 3) := by decide +kernel
theorem d24_Bui_open_68 : decode prog_4_method_2_code 68 = .ok (.aload_n 0, 1) := by decide +kernel
theorem d24_Bui_open_69 : decode prog_4_method_2_code 69 = .ok (.iconst 0, 1) := by decide +kernel
theorem d24_Bui_open_70 : decode prog_4_method_2_code 70 = .ok (.putfield 102, 3) := by decide +kernel
theorem d24_Bui_open_73 : decode prog_4_method_2_code 73 = .ok (.aload_n 0, 1) := by decide +kernel
theorem d24_Bui_open_74 : decode prog_4_method_2_code 74 = .ok (.iconst 0, 1) := by decide +kernel
theorem d24_Bui_open_75 : decode prog_4_method_2_code 75 = .ok (.putfield 106, 3) := by decide +kernel
theorem d24_Bui_open_78 : decode prog_4_method_2_code 78 = .ok (.return_, 1) := by decide +kernel
theorem d24_Bui_isOpen_0 : decode prog_4_method_3_code 0 = .ok (.aload_n 0, 1) := by decide +kernel
theorem d24_Bui_isOpen_1 : decode prog_4_method_3_code 1 = .ok (.getfield 106, 3) := by decide +kernel
theorem d24_Bui_isOpen_4 : decode prog_4_method_3_code 4 = .ok (.ifCond .ne 7, 3) := by decide +kernel
theorem d24_Bui_isOpen_7 : decode prog_4_method_3_code 7 = .ok (.iconst 1, 1) := by decide +kernel
theorem d24_Bui_isOpen_8 : decode prog_4_method_3_code 8 = .ok (.goto 4, 3) := by decide +kernel
theorem d24_Bui_isOpen_12 : decode prog_4_method_3_code 12 = .ok (.ireturn, 1) := by decide +kernel
theorem d24_Rea_kind_0 : decode prog_9_method_3_code 0 = .ok (.aload_n 0, 1) := by decide +kernel
theorem d24_Rea_kind_1 : decode prog_9_method_3_code 1 = .ok (.getfield 15, 3) := by decide +kernel
theorem d24_Rea_kind_4 : decode prog_9_method_3_code 4 = .ok (.getfield 37, 3) := by decide +kernel
theorem d24_Rea_kind_7 : decode prog_9_method_3_code 7 = .ok (.aload_n 0, 1) := by decide +kernel
theorem d24_Rea_kind_8 : decode prog_9_method_3_code 8 = .ok (.getfield 27, 3) := by decide +kernel
theorem d24_Rea_kind_11 : decode prog_9_method_3_code 11 = .ok (.iaload, 1) := by decide +kernel
theorem d24_Rea_kind_12 : decode prog_9_method_3_code 12 = .ok (.ireturn, 1) := by decide +kernel
theorem d24_Bui_noteStart_0 : decode prog_4_method_8_code 0 = .ok (.aload_n 0, 1) := by decide +kernel
theorem d24_Bui_noteStart_1 : decode prog_4_method_8_code 1 = .ok (.getfield 47, 3) := by decide +kernel
theorem d24_Bui_noteStart_4 : decode prog_4_method_8_code 4 = .ok (.getfield 155, 3) := by decide +kernel
theorem d24_Bui_noteStart_7 : decode prog_4_method_8_code 7 = .ok (.ifCond .ne 29, 3) := by decide +kernel
theorem d24_Bui_noteStart_10 : decode prog_4_method_8_code 10 = .ok (.aload_n 0, 1) := by decide +kernel
theorem d24_Bui_noteStart_11 : decode prog_4_method_8_code 11 = .ok (.getfield 99, 3) := by decide +kernel
theorem d24_Bui_noteStart_14 : decode prog_4_method_8_code 14 = .ok (.sipush 1821, 3) := by decide +kernel
theorem d24_Bui_noteStart_17 : decode prog_4_method_8_code 17 = .ok (.if_icmp .ge 19, 3) := by decide +kernel
theorem d24_Bui_noteStart_20 : decode prog_4_method_8_code 20 = .ok (.aload_n 0, 1) := by decide +kernel
theorem d24_Bui_noteStart_21 : decode prog_4_method_8_code 21 = .ok (.getfield 18, 3) := by decide +kernel
theorem d24_Bui_noteStart_24 : decode prog_4_method_8_code 24 = .ok (.aload_n 0, 1) := by decide +kernel
theorem d24_Bui_noteStart_25 : decode prog_4_method_8_code 25 = .ok (.getfield 99, 3) := by decide +kernel
theorem d24_Bui_noteStart_28 : decode prog_4_method_8_code 28 = .ok (.aload_n 0, 1) := by decide +kernel
theorem d24_Bui_noteStart_29 : decode prog_4_method_8_code 29 = .ok (.getfield 51, 3) := by decide +kernel
theorem d24_Bui_noteStart_32 : decode prog_4_method_8_code 32 = .ok (.getfield 129, 3) := by decide +kernel
theorem d24_Bui_noteStart_35 : decode prog_4_method_8_code 35 = .ok (.iastore, 1) := by decide +kernel
theorem d24_Bui_noteStart_36 : decode prog_4_method_8_code 36 = .ok (.return_, 1) := by decide +kernel
theorem d24_Flt_refuse_0 : decode prog_7_method_5_code 0 = .ok (.aload_n 0, 1) := by decide +kernel
theorem d24_Flt_refuse_1 : decode prog_7_method_5_code 1 = .ok (.iload_n 1, 1) := by decide +kernel
theorem d24_Flt_refuse_2 : decode prog_7_method_5_code 2 = .ok (.putfield 39, 3) := by decide +kernel
theorem d24_Flt_refuse_5 : decode prog_7_method_5_code 5 = .ok (.aload_n 0, 1) := by decide +kernel
theorem d24_Flt_refuse_6 : decode prog_7_method_5_code 6 = .ok (.iload_n 2, 1) := by decide +kernel
theorem d24_Flt_refuse_7 : decode prog_7_method_5_code 7 = .ok (.putfield 7, 3) := by decide +kernel
theorem d24_Flt_refuse_10 : decode prog_7_method_5_code 10 = .ok (.new 42, 3) := by decide +kernel
theorem d24_Flt_refuse_13 : decode prog_7_method_5_code 13 = .ok (.dup, 1) := by decide +kernel
theorem d24_Flt_refuse_14 : decode prog_7_method_5_code 14 = .ok (.invokespecial 44, 3) := by decide +kernel
theorem d24_Flt_refuse_17 : decode prog_7_method_5_code 17 = .ok (.athrow, 1) := by decide +kernel
theorem d24_Rea_take_0 : decode prog_9_method_5_code 0 = .ok (.aload_n 0, 1) := by decide +kernel
theorem d24_Rea_take_1 : decode prog_9_method_5_code 1 = .ok (.getfield 15, 3) := by decide +kernel
theorem d24_Rea_take_4 : decode prog_9_method_5_code 4 = .ok (.getfield 37, 3) := by decide +kernel
theorem d24_Rea_take_7 : decode prog_9_method_5_code 7 = .ok (.aload_n 0, 1) := by decide +kernel
theorem d24_Rea_take_8 : decode prog_9_method_5_code 8 = .ok (.getfield 27, 3) := by decide +kernel
theorem d24_Rea_take_11 : decode prog_9_method_5_code 11 = .ok (.iaload, 1) := by decide +kernel
theorem d24_Rea_take_12 : decode prog_9_method_5_code 12 = .ok (.iload_n 1, 1) := by decide +kernel
theorem d24_Rea_take_13 : decode prog_9_method_5_code 13 = .ok (.if_icmp .ne 28, 3) := by decide +kernel
theorem d24_Rea_take_41 : decode prog_9_method_5_code 41 = .ok (.aload_n 0, 1) := by decide +kernel
theorem d24_Rea_take_42 : decode prog_9_method_5_code 42 = .ok (.getfield 19, 3) := by decide +kernel
theorem d24_Rea_take_45 : decode prog_9_method_5_code 45 = .ok (.iconst 1, 1) := by decide +kernel
theorem d24_Rea_take_46 : decode prog_9_method_5_code 46 = .ok (.aload_n 0, 1) := by decide +kernel
theorem d24_Rea_take_47 : decode prog_9_method_5_code 47 = .ok (.getfield 15, 3) := by decide +kernel
theorem d24_Rea_take_50 : decode prog_9_method_5_code 50 = .ok (.getfield 45, 3) := by decide +kernel
theorem d24_Rea_take_53 : decode prog_9_method_5_code 53 = .ok (.aload_n 0, 1) := by decide +kernel
theorem d24_Rea_take_54 : decode prog_9_method_5_code 54 = .ok (.getfield 27, 3) := by decide +kernel
theorem d24_Rea_take_57 : decode prog_9_method_5_code 57 = .ok (.iaload, 1) := by decide +kernel
theorem d24_Rea_take_58 : decode prog_9_method_5_code 58 = .ok (.invokevirtual 48, 3) := by decide +kernel
theorem d24_Bui_head_0 : decode prog_4_method_9_code 0 = .ok (.aload_n 0, 1) := by decide +kernel
theorem d24_Bui_head_1 : decode prog_4_method_9_code 1 = .ok (.getfield 51, 3) := by decide +kernel
theorem d24_Bui_head_4 : decode prog_4_method_9_code 4 = .ok (.sipush 160, 3) := by decide +kernel
theorem d24_Bui_head_7 : decode prog_4_method_9_code 7 = .ok (.invokevirtual 171, 3) := by decide +kernel
theorem d24_Bui_item_0 : decode prog_4_method_7_code 0 = .ok (.aload_n 0, 1) := by decide +kernel
theorem d24_Bui_item_1 : decode prog_4_method_7_code 1 = .ok (.getfield 51, 3) := by decide +kernel
theorem d24_Bui_item_4 : decode prog_4_method_7_code 4 = .ok (.invokevirtual 146, 3) := by decide +kernel
theorem d24_Bui_item_7 : decode prog_4_method_7_code 7 = .ok (.istore_n 1, 1) := by decide +kernel
theorem d24_Bui_item_8 : decode prog_4_method_7_code 8 = .ok (.aload_n 0, 1) := by decide +kernel
theorem d24_Bui_item_9 : decode prog_4_method_7_code 9 = .ok (.getfield 102, 3) := by decide +kernel
theorem d24_Bui_item_12 : decode prog_4_method_7_code 12 = .ok (.ifCond .ne 38, 3) := by decide +kernel
theorem d24_Bui_item_15 : decode prog_4_method_7_code 15 = .ok (.aload_n 0, 1) := by decide +kernel
theorem d24_Bui_item_16 : decode prog_4_method_7_code 16 = .ok (.invokevirtual 149, 3) := by decide +kernel
theorem d24_Bui_item_19 : decode prog_4_method_7_code 19 = .ok (.aload_n 0, 1) := by decide +kernel
theorem d24_Bui_item_20 : decode prog_4_method_7_code 20 = .ok (.invokevirtual 152, 3) := by decide +kernel
theorem d24_S_build_0 : decode prog_1_method_5_code 0 = .ok (.aload_n 0, 1) := by decide +kernel
theorem d24_S_build_1 : decode prog_1_method_5_code 1 = .ok (.getfield 75, 3) := by decide +kernel
theorem d24_S_build_4 : decode prog_1_method_5_code 4 = .ok (.istore_n 1, 1) := by decide +kernel
theorem d24_S_build_5 : decode prog_1_method_5_code 5 = .ok (.aload_n 0, 1) := by decide +kernel
theorem d24_S_build_6 : decode prog_1_method_5_code 6 = .ok (.iconst 0, 1) := by decide +kernel
theorem d24_S_build_7 : decode prog_1_method_5_code 7 = .ok (.putfield 75, 3) := by decide +kernel
theorem d24_S_build_10 : decode prog_1_method_5_code 10 = .ok (.aload_n 0, 1) := by decide +kernel
theorem d24_S_build_11 : decode prog_1_method_5_code 11 = .ok (.getfield 42, 3) := by decide +kernel
theorem d24_S_build_14 : decode prog_1_method_5_code 14 = .ok (.aload_n 0, 1) := by decide +kernel
theorem d24_S_build_15 : decode prog_1_method_5_code 15 = .ok (.getfield 10, 3) := by decide +kernel
theorem d24_S_build_18 : decode prog_1_method_5_code 18 = .ok (.iload_n 1, 1) := by decide +kernel
theorem d24_S_build_19 : decode prog_1_method_5_code 19 = .ok (.invokevirtual 89, 3) := by decide +kernel
theorem d24_S_build_22 : decode prog_1_method_5_code 22 = .ok (.aload_n 0, 1) := by decide +kernel
theorem d24_S_build_23 : decode prog_1_method_5_code 23 = .ok (.getfield 54, 3) := by decide +kernel
theorem d24_S_build_26 : decode prog_1_method_5_code 26 = .ok (.aload_n 0, 1) := by decide +kernel
theorem d24_S_build_27 : decode prog_1_method_5_code 27 = .ok (.getfield 42, 3) := by decide +kernel
theorem d24_S_build_30 : decode prog_1_method_5_code 30 = .ok (.iload_n 1, 1) := by decide +kernel
theorem d24_S_build_31 : decode prog_1_method_5_code 31 = .ok (.invokevirtual 93, 3) := by decide +kernel
theorem d24_S_build_34 : decode prog_1_method_5_code 34 = .ok (.iconst 0, 1) := by decide +kernel
theorem d24_S_build_35 : decode prog_1_method_5_code 35 = .ok (.istore_n 2, 1) := by decide +kernel
theorem d24_S_build_36 : decode prog_1_method_5_code 36 = .ok (.iload_n 2, 1) := by decide +kernel
theorem d24_S_build_37 : decode prog_1_method_5_code 37 = .ok (.ldc 9, 2) := by decide +kernel
theorem d24_S_build_39 : decode prog_1_method_5_code 39 = .ok (.if_icmp .ge 26, 3) := by decide +kernel
theorem d24_S_build_42 : decode prog_1_method_5_code 42 = .ok (.aload_n 0, 1) := by decide +kernel
theorem d24_S_build_43 : decode prog_1_method_5_code 43 = .ok (.getfield 54, 3) := by decide +kernel
theorem d24_S_build_46 : decode prog_1_method_5_code 46 = .ok (.invokevirtual 97, 3) := by decide +kernel
theorem d24_S_build_49 : decode prog_1_method_5_code 49 = .ok (.ifCond .eq 16, 3) := by decide +kernel
theorem d24_S_build_52 : decode prog_1_method_5_code 52 = .ok (.aload_n 0, 1) := by decide +kernel
theorem d24_S_build_53 : decode prog_1_method_5_code 53 = .ok (.getfield 54, 3) := by decide +kernel
theorem d24_S_build_56 : decode prog_1_method_5_code 56 = .ok (.invokevirtual 101, 3) := by decide +kernel
set_option maxHeartbeats 4000000 in
set_option maxRecDepth 100000 in
/-- Builder.open(made, 0) -/
theorem c_Bui_open (l : Launch) (D : va_G) (q98 : Nat) (q67 : Nat) (q3 : Nat) (q19 : Nat) (q20 : Nat) (q31 : Nat) (q99 : Nat) (q100 : Nat) (q101 : Nat) (q102 : Nat) (q103 : Nat) (q104 : Nat) (q105 : Nat) (q4 : Nat) (q5 : Nat) (q6 : Nat) (q7 : Nat) (q8 : Nat) (q9 : Nat) (q10 : Nat) (q11 : Nat) (q12 : Nat) (q13 : Nat) (q14 : Nat) (cA15 : ClassId) (g_q4 : Nat → Int32) (cA16 : ClassId) (g_q5 : Nat → Int32) (cA17 : ClassId) (g_q6 : Nat → Int32) (cA18 : ClassId) (g_q7 : Nat → Int32) (q68 : Nat) (q69 : Nat) (q70 : Nat) (q71 : Nat) (q72 : Nat) (q73 : Nat) (q74 : Nat) (q75 : Nat) (q76 : Nat) (q77 : Nat) (q78 : Nat) (q79 : Nat) (q80 : Nat) (q81 : Nat) (cA107 : ClassId) (g_q102 : Nat → Int32) (q21 : Nat) (q24 : Nat) (q25 : Nat) (q26 : Nat) (q27 : Nat) (q28 : Nat) (q29 : Nat) (cA30 : ClassId) (g_q24 : Nat → Int32) (q32 : Nat) : q_Met l ⟨"SignalTheatre$Builder", "open", "(LSignalTheatre$Circuit;I)V"⟩ (Cond.code ⟨"SignalTheatre$Builder", "open", "(LSignalTheatre$Circuit;I)V"⟩ prog_4_method_2_code 3 none) { frames := 3, cells := 0, slots := 0, locals := 43 } D q_cl [.ref q98, .ref q67, .int 0] [(q98, .inr (9, [.ref q3, .ref q19, .ref q20, .ref q31, .null, .ref q99, .ref q100, .ref q101, .int 0, .ref q102, .int 0, .int 0, .ref q103, .ref q104, .ref q105, .int 0, .int 0, .int 0])), (q19, .inr (2, [.ref q3, .int 0, .int (-1), .int 0, .int 0, .int 0, .int 0])), (q3, .inr (1, [.null, .int 0, .ref q4, .ref q5, .ref q6, .int 0, .ref q7, .ref q8, .ref q9, .ref q10, .ref q11, .int 0, .ref q12, .ref q13, .ref q14, .int 0, .long 0, .long 0, .int 0, .int 0])), (q4, .inl (cA15, 32769, .inl g_q4)), (q5, .inl (cA16, 32769, .inl g_q5)), (q6, .inl (cA17, 32769, .inl g_q6)), (q7, .inl (cA18, 1024, .inl g_q7)), (q67, .inr (6, [.ref q68, .ref q69, .ref q70, .int 0, .ref q71, .ref q72, .int 0, .int 0, .ref q73, .ref q74, .ref q75, .int 0, .ref q76, .ref q77, .ref q78, .int 0, .ref q79, .int 0, .ref q80, .ref q81])), (q102, .inl (cA107, 16385, .inl g_q102)), (q20, .inr (3, [.ref q3, .ref q19, .ref q21, .null, .null, .int 0, .int 0, .int 0, .int 0, .int 0, .int 0, .ref q24, .ref q25, .ref q26, .ref q27, .ref q28, .ref q29, .int 0])), (q24, .inl (cA30, 16385, .inl g_q24)), (q31, .inr (5, [.ref q3, .ref q19, .ref q20, .ref q32, .int 0, .int 0, .int 0, .long 0, .long 0]))] [(cA15, .int), (cA16, .int), (cA17, .int), (cA18, .int), (cA107, .int), (cA30, .int)] (fun r w ty => ∃ (g1 : Nat → Int32), r = .inl none ∧ w = [(q98, .inr (9, [.ref q3, .ref q19, .ref q20, .ref q31, .ref q67, .ref q99, .ref q100, .ref q101, .int 0, .ref q102, .int 0, .int 0, .ref q103, .ref q104, .ref q105, .int 0, .int 0, .int 0])), (q7, .inl (cA18, 1024, .inl g1)), (q4, .inl (cA15, 32769, .inl (upd g_q4 0 5))), (q5, .inl (cA16, 32769, .inl (upd g_q5 0 0))), (q6, .inl (cA17, 32769, .inl (upd g_q6 0 0))), (q102, .inl (cA107, 16385, .inl g_q102)), (q67, .inr (6, [.ref q68, .ref q69, .ref q70, .int 0, .ref q71, .ref q72, .int 0, .int 0, .ref q73, .ref q74, .ref q75, .int 0, .ref q76, .ref q77, .ref q78, .int 0, .ref q79, .int 0, .ref q80, .ref q81])), (q3, .inr (1, [.ref q68, .int 0, .ref q4, .ref q5, .ref q6, .int (0 + 1), .ref q7, .ref q8, .ref q9, .ref q10, .ref q11, .int 0, .ref q12, .ref q13, .ref q14, .int 0, .long 0, .long 0, .int 0, .int 0])), (q24, .inl (cA30, 16385, .inl g_q24)), (q20, .inr (3, [.ref q3, .ref q19, .ref q21, .ref q67, .ref q69, .int 0, .int 0, .int 0, .int 0, .int 0, .int 0, .ref q24, .ref q25, .ref q26, .ref q27, .ref q28, .ref q29, .int 0])), (q19, .inr (2, [.ref q3, .int 0, .int (-1), .int 0, .int 0, .int 0, .int 0])), (q31, .inr (5, [.ref q3, .ref q19, .ref q20, .ref q32, .int 0, .int 0, .int 0, .long 0, .long 0]))] ∧ ty = [(cA18, .int), (cA15, .int), (cA16, .int), (cA17, .int), (cA107, .int), (cA30, .int)]) := by
  refine q_ofW (by decide) ?_
  intro p e s m below meth c C hr hin hex I
  have hx := C.1
  have hb := C.2.1
  have hl := lv_entry ([.ref q98, .ref q67, .int 0]) (n := 3) (Nat.le_of_ble_eq_true rfl)
  rw [lg_entry_eq]
  generalize (lg_sl ([.ref q98, .ref q67, .int 0]) ++ List.replicate (3 - (lg_sl ([.ref q98, .ref q67, .int 0])).length) Slot.unset).toArray = ls at hl ⊢
  have hl : lv_has ls 3 [(0, .ref q98), (1, .ref q67), (2, .int 0)] := hl
  refine lv_aload_n hx hb d24_Bui_open_0 rfl (lv_at hl 0 rfl) ?_
  refine lv_aload_n hx hb d24_Bui_open_1 rfl (lv_at hl 1 rfl) ?_
  refine q_put t_Bui t_Bui_ok n_Bui C I 0 4 rfl rfl i_Bui (by decide) m24_0 rfl rfl rfl (Nat.le_of_ble_eq_true rfl) d24_Bui_open_2 (fun H locs I => ?_)
  have I : q_I D q_cl _ s [(q98, .inr (9, [.ref q3, .ref q19, .ref q20, .ref q31, .ref q67, .ref q99, .ref q100, .ref q101, .int 0, .ref q102, .int 0, .int 0, .ref q103, .ref q104, .ref q105, .int 0, .int 0, .int 0])), (q19, .inr (2, [.ref q3, .int 0, .int (-1), .int 0, .int 0, .int 0, .int 0])), (q3, .inr (1, [.null, .int 0, .ref q4, .ref q5, .ref q6, .int 0, .ref q7, .ref q8, .ref q9, .ref q10, .ref q11, .int 0, .ref q12, .ref q13, .ref q14, .int 0, .long 0, .long 0, .int 0, .int 0])), (q4, .inl (cA15, 32769, .inl g_q4)), (q5, .inl (cA16, 32769, .inl g_q5)), (q6, .inl (cA17, 32769, .inl g_q6)), (q7, .inl (cA18, 1024, .inl g_q7)), (q67, .inr (6, [.ref q68, .ref q69, .ref q70, .int 0, .ref q71, .ref q72, .int 0, .int 0, .ref q73, .ref q74, .ref q75, .int 0, .ref q76, .ref q77, .ref q78, .int 0, .ref q79, .int 0, .ref q80, .ref q81])), (q102, .inl (cA107, 16385, .inl g_q102)), (q20, .inr (3, [.ref q3, .ref q19, .ref q21, .null, .null, .int 0, .int 0, .int 0, .int 0, .int 0, .int 0, .ref q24, .ref q25, .ref q26, .ref q27, .ref q28, .ref q29, .int 0])), (q24, .inl (cA30, 16385, .inl g_q24)), (q31, .inr (5, [.ref q3, .ref q19, .ref q20, .ref q32, .int 0, .int 0, .int 0, .long 0, .long 0]))] [(cA15, .int), (cA16, .int), (cA17, .int), (cA18, .int), (cA107, .int), (cA30, .int)] H _ := I
  refine lv_aload_n hx hb d24_Bui_open_5 rfl (lv_at hl 0 rfl) ?_
  refine q_get C I 0 1 rfl rfl i_Bui (by decide) m24_1 rfl d24_Bui_open_6 ?_
  refine q_go (wr := [(q98, .inr (9, [.ref q3, .ref q19, .ref q20, .ref q31, .ref q67, .ref q99, .ref q100, .ref q101, .int 0, .ref q102, .int 0, .int 0, .ref q103, .ref q104, .ref q105, .int 0, .int 0, .int 0])), (q3, .inr (1, [.null, .int 0, .ref q4, .ref q5, .ref q6, .int 0, .ref q7, .ref q8, .ref q9, .ref q10, .ref q11, .int 0, .ref q12, .ref q13, .ref q14, .int 0, .long 0, .long 0, .int 0, .int 0])), (q4, .inl (cA15, 32769, .inl g_q4)), (q5, .inl (cA16, 32769, .inl g_q5)), (q6, .inl (cA17, 32769, .inl g_q6)), (q7, .inl (cA18, 1024, .inl g_q7)), (q67, .inr (6, [.ref q68, .ref q69, .ref q70, .int 0, .ref q71, .ref q72, .int 0, .int 0, .ref q73, .ref q74, .ref q75, .int 0, .ref q76, .ref q77, .ref q78, .int 0, .ref q79, .int 0, .ref q80, .ref q81])), (q102, .inl (cA107, 16385, .inl g_q102)), (q20, .inr (3, [.ref q3, .ref q19, .ref q21, .null, .null, .int 0, .int 0, .int 0, .int 0, .int 0, .int 0, .ref q24, .ref q25, .ref q26, .ref q27, .ref q28, .ref q29, .int 0])), (q24, .inl (cA30, 16385, .inl g_q24)), (q31, .inr (5, [.ref q3, .ref q19, .ref q20, .ref q32, .int 0, .int 0, .int 0, .long 0, .long 0]))]) (tyr := [(cA15, .int), (cA16, .int), (cA17, .int), (cA18, .int), (cA107, .int), (cA30, .int)]) C I (q_siteV (As := []) (rest := []) (q0 := 1) C I rfl rfl m24_2 m24_4 m24_5 m24_3 ⟨by decide, by decide⟩ (Eq.trans (b := some 0) (by decide +kernel) rfl) rfl d24_Bui_open_9) (c_Flt_forget l D q19 q3) m24_3 m24_6 [1] [0, 2, 3, 4, 5, 6, 7, 8, 9, 10, 11] [] [0, 1, 2, 3, 4, 5] rfl rfl (by decide) (by decide) (by decide) rfl rfl hl.1 d24_Bui_open_9 (Nat.le_of_ble_eq_true rfl) (Nat.le_of_ble_eq_true rfl) (Nat.le_of_ble_eq_true rfl) (Nat.le_of_ble_eq_true rfl) (fun v w ty H locs hp I => ?_) (fun E w ty H locs q ce hp _ _ _ _ => ?_)
  rotate_left
  · obtain ⟨hv, -⟩ := hp; cases hv
  obtain ⟨hv, rfl, rfl⟩ := hp
  cases hv
  have I : q_I D q_cl _ s [(q98, .inr (9, [.ref q3, .ref q19, .ref q20, .ref q31, .ref q67, .ref q99, .ref q100, .ref q101, .int 0, .ref q102, .int 0, .int 0, .ref q103, .ref q104, .ref q105, .int 0, .int 0, .int 0])), (q3, .inr (1, [.null, .int 0, .ref q4, .ref q5, .ref q6, .int 0, .ref q7, .ref q8, .ref q9, .ref q10, .ref q11, .int 0, .ref q12, .ref q13, .ref q14, .int 0, .long 0, .long 0, .int 0, .int 0])), (q4, .inl (cA15, 32769, .inl g_q4)), (q5, .inl (cA16, 32769, .inl g_q5)), (q6, .inl (cA17, 32769, .inl g_q6)), (q7, .inl (cA18, 1024, .inl g_q7)), (q67, .inr (6, [.ref q68, .ref q69, .ref q70, .int 0, .ref q71, .ref q72, .int 0, .int 0, .ref q73, .ref q74, .ref q75, .int 0, .ref q76, .ref q77, .ref q78, .int 0, .ref q79, .int 0, .ref q80, .ref q81])), (q102, .inl (cA107, 16385, .inl g_q102)), (q20, .inr (3, [.ref q3, .ref q19, .ref q21, .null, .null, .int 0, .int 0, .int 0, .int 0, .int 0, .int 0, .ref q24, .ref q25, .ref q26, .ref q27, .ref q28, .ref q29, .int 0])), (q24, .inl (cA30, 16385, .inl g_q24)), (q31, .inr (5, [.ref q3, .ref q19, .ref q20, .ref q32, .int 0, .int 0, .int 0, .long 0, .long 0])), (q19, .inr (2, [.ref q3, .int 0, .int (-1), .int 0, .int 0, .int 0, .int 0]))] [(cA15, .int), (cA16, .int), (cA17, .int), (cA18, .int), (cA107, .int), (cA30, .int)] H _ := I
  refine W.eq (g2 := F0 m 12 ls []) rfl ?_
  refine lv_aload_n hx hb d24_Bui_open_12 rfl (lv_at hl 0 rfl) ?_
  refine q_get C I 0 0 rfl rfl i_Bui (by decide) m24_7 rfl d24_Bui_open_13 ?_
  refine lv_aload_n hx hb d24_Bui_open_16 rfl (lv_at hl 1 rfl) ?_
  refine q_get C I 6 0 rfl rfl i_Cir (by decide) m24_8 rfl d24_Bui_open_17 ?_
  refine lv_iload_n hx hb d24_Bui_open_20 rfl (lv_at hl 2 rfl) ?_
  refine q_go (wr := [(q98, .inr (9, [.ref q3, .ref q19, .ref q20, .ref q31, .ref q67, .ref q99, .ref q100, .ref q101, .int 0, .ref q102, .int 0, .int 0, .ref q103, .ref q104, .ref q105, .int 0, .int 0, .int 0])), (q67, .inr (6, [.ref q68, .ref q69, .ref q70, .int 0, .ref q71, .ref q72, .int 0, .int 0, .ref q73, .ref q74, .ref q75, .int 0, .ref q76, .ref q77, .ref q78, .int 0, .ref q79, .int 0, .ref q80, .ref q81])), (q102, .inl (cA107, 16385, .inl g_q102)), (q20, .inr (3, [.ref q3, .ref q19, .ref q21, .null, .null, .int 0, .int 0, .int 0, .int 0, .int 0, .int 0, .ref q24, .ref q25, .ref q26, .ref q27, .ref q28, .ref q29, .int 0])), (q24, .inl (cA30, 16385, .inl g_q24)), (q31, .inr (5, [.ref q3, .ref q19, .ref q20, .ref q32, .int 0, .int 0, .int 0, .long 0, .long 0])), (q19, .inr (2, [.ref q3, .int 0, .int (-1), .int 0, .int 0, .int 0, .int 0]))]) (tyr := [(cA107, .int), (cA30, .int)]) C I (q_siteV (As := [.ref q68, .int 0]) (rest := []) (q0 := 1) C I rfl rfl m24_9 m24_11 m24_12 m24_10 ⟨by decide, by decide⟩ (Eq.trans (b := some 2) (by decide +kernel) rfl) rfl d24_Bui_open_21) (c_Tok_cut l D q3 q68 q4 q5 q6 q7 q8 q9 q10 q11 q12 q13 q14 cA15 g_q4 cA16 g_q5 cA17 g_q6 cA18 g_q7) m24_10 m24_13 [1, 2, 3, 4, 5] [0, 6, 7, 8, 9, 10, 11] [0, 1, 2, 3] [4, 5] rfl rfl (by decide) (by decide) (by decide) rfl rfl hl.1 d24_Bui_open_21 (Nat.le_of_ble_eq_true rfl) (Nat.le_of_ble_eq_true rfl) (Nat.le_of_ble_eq_true rfl) (Nat.le_of_ble_eq_true rfl) (fun v w ty H locs hp I => ?_) (fun E w ty H locs q ce hp _ _ _ _ => ?_)
  rotate_left
  · obtain ⟨_, hv, -⟩ := hp; cases hv
  obtain ⟨g1, hv, rfl, rfl⟩ := hp
  cases hv
  have I : q_I D q_cl _ s [(q98, .inr (9, [.ref q3, .ref q19, .ref q20, .ref q31, .ref q67, .ref q99, .ref q100, .ref q101, .int 0, .ref q102, .int 0, .int 0, .ref q103, .ref q104, .ref q105, .int 0, .int 0, .int 0])), (q67, .inr (6, [.ref q68, .ref q69, .ref q70, .int 0, .ref q71, .ref q72, .int 0, .int 0, .ref q73, .ref q74, .ref q75, .int 0, .ref q76, .ref q77, .ref q78, .int 0, .ref q79, .int 0, .ref q80, .ref q81])), (q102, .inl (cA107, 16385, .inl g_q102)), (q20, .inr (3, [.ref q3, .ref q19, .ref q21, .null, .null, .int 0, .int 0, .int 0, .int 0, .int 0, .int 0, .ref q24, .ref q25, .ref q26, .ref q27, .ref q28, .ref q29, .int 0])), (q24, .inl (cA30, 16385, .inl g_q24)), (q31, .inr (5, [.ref q3, .ref q19, .ref q20, .ref q32, .int 0, .int 0, .int 0, .long 0, .long 0])), (q19, .inr (2, [.ref q3, .int 0, .int (-1), .int 0, .int 0, .int 0, .int 0])), (q7, .inl (cA18, 1024, .inl g1)), (q3, .inr (1, [.ref q68, .int 0, .ref q4, .ref q5, .ref q6, .int (0 + 1), .ref q7, .ref q8, .ref q9, .ref q10, .ref q11, .int 0, .ref q12, .ref q13, .ref q14, .int 0, .long 0, .long 0, .int 0, .int 0])), (q4, .inl (cA15, 32769, .inl (upd g_q4 0 5))), (q5, .inl (cA16, 32769, .inl (upd g_q5 0 0))), (q6, .inl (cA17, 32769, .inl (upd g_q6 0 0)))] [(cA107, .int), (cA30, .int), (cA18, .int), (cA15, .int), (cA16, .int), (cA17, .int)] H _ := I
  refine W.eq (g2 := F0 m 24 ls []) rfl ?_
  refine lv_aload_n hx hb d24_Bui_open_24 rfl (lv_at hl 0 rfl) ?_
  refine q_get C I 0 9 rfl rfl i_Bui (by decide) m24_14 rfl d24_Bui_open_25 ?_
  refine lv_iconst (v := 0) hx hb d24_Bui_open_28 (by decide) ?_
  refine lv_aload_n hx hb d24_Bui_open_29 rfl (lv_at hl 0 rfl) ?_
  refine q_get C I 0 0 rfl rfl i_Bui (by decide) m24_7 rfl d24_Bui_open_30 ?_
  refine q_get C I 8 11 rfl rfl i_Tok (by decide) m24_15 rfl d24_Bui_open_33 ?_
  refine lv_iconst (v := 0) hx hb d24_Bui_open_36 (by decide) ?_
  refine q_go (wr := [(q98, .inr (9, [.ref q3, .ref q19, .ref q20, .ref q31, .ref q67, .ref q99, .ref q100, .ref q101, .int 0, .ref q102, .int 0, .int 0, .ref q103, .ref q104, .ref q105, .int 0, .int 0, .int 0])), (q67, .inr (6, [.ref q68, .ref q69, .ref q70, .int 0, .ref q71, .ref q72, .int 0, .int 0, .ref q73, .ref q74, .ref q75, .int 0, .ref q76, .ref q77, .ref q78, .int 0, .ref q79, .int 0, .ref q80, .ref q81])), (q20, .inr (3, [.ref q3, .ref q19, .ref q21, .null, .null, .int 0, .int 0, .int 0, .int 0, .int 0, .int 0, .ref q24, .ref q25, .ref q26, .ref q27, .ref q28, .ref q29, .int 0])), (q24, .inl (cA30, 16385, .inl g_q24)), (q31, .inr (5, [.ref q3, .ref q19, .ref q20, .ref q32, .int 0, .int 0, .int 0, .long 0, .long 0])), (q19, .inr (2, [.ref q3, .int 0, .int (-1), .int 0, .int 0, .int 0, .int 0])), (q7, .inl (cA18, 1024, .inl g1)), (q3, .inr (1, [.ref q68, .int 0, .ref q4, .ref q5, .ref q6, .int (0 + 1), .ref q7, .ref q8, .ref q9, .ref q10, .ref q11, .int 0, .ref q12, .ref q13, .ref q14, .int 0, .long 0, .long 0, .int 0, .int 0])), (q4, .inl (cA15, 32769, .inl (upd g_q4 0 5))), (q5, .inl (cA16, 32769, .inl (upd g_q5 0 0))), (q6, .inl (cA17, 32769, .inl (upd g_q6 0 0)))]) (tyr := [(cA30, .int), (cA18, .int), (cA15, .int), (cA16, .int), (cA17, .int)]) C I (q_siteS (As := [.ref q102, .int 0, .int 0, .int 0]) (rest := []) C m24_16 m24_18 m24_19 m24_17 ⟨by decide, by decide⟩ (Eq.trans (b := some 4) (by decide +kernel) rfl) rfl d24_Bui_open_37) (c_java_util_Arrays_fill_IIIIV l D q102 0 cA107 g_q102) m24_17 m24_19 [2] [0, 1, 3, 4, 5, 6, 7, 8, 9, 10, 11] [0] [1, 2, 3, 4, 5] rfl rfl (by decide) (by decide) (by decide) rfl rfl hl.1 d24_Bui_open_37 (Nat.le_of_ble_eq_true rfl) (Nat.le_of_ble_eq_true rfl) (Nat.le_of_ble_eq_true rfl) (Nat.le_of_ble_eq_true rfl) (fun v w ty H locs hp I => ?_) (fun E w ty H locs q ce hp _ _ _ _ => ?_)
  rotate_left
  · obtain ⟨hv, -⟩ := hp; cases hv
  obtain ⟨hv, rfl, rfl⟩ := hp
  cases hv
  have I : q_I D q_cl _ s [(q98, .inr (9, [.ref q3, .ref q19, .ref q20, .ref q31, .ref q67, .ref q99, .ref q100, .ref q101, .int 0, .ref q102, .int 0, .int 0, .ref q103, .ref q104, .ref q105, .int 0, .int 0, .int 0])), (q67, .inr (6, [.ref q68, .ref q69, .ref q70, .int 0, .ref q71, .ref q72, .int 0, .int 0, .ref q73, .ref q74, .ref q75, .int 0, .ref q76, .ref q77, .ref q78, .int 0, .ref q79, .int 0, .ref q80, .ref q81])), (q20, .inr (3, [.ref q3, .ref q19, .ref q21, .null, .null, .int 0, .int 0, .int 0, .int 0, .int 0, .int 0, .ref q24, .ref q25, .ref q26, .ref q27, .ref q28, .ref q29, .int 0])), (q24, .inl (cA30, 16385, .inl g_q24)), (q31, .inr (5, [.ref q3, .ref q19, .ref q20, .ref q32, .int 0, .int 0, .int 0, .long 0, .long 0])), (q19, .inr (2, [.ref q3, .int 0, .int (-1), .int 0, .int 0, .int 0, .int 0])), (q7, .inl (cA18, 1024, .inl g1)), (q3, .inr (1, [.ref q68, .int 0, .ref q4, .ref q5, .ref q6, .int (0 + 1), .ref q7, .ref q8, .ref q9, .ref q10, .ref q11, .int 0, .ref q12, .ref q13, .ref q14, .int 0, .long 0, .long 0, .int 0, .int 0])), (q4, .inl (cA15, 32769, .inl (upd g_q4 0 5))), (q5, .inl (cA16, 32769, .inl (upd g_q5 0 0))), (q6, .inl (cA17, 32769, .inl (upd g_q6 0 0))), (q102, .inl (cA107, 16385, .inl g_q102))] [(cA30, .int), (cA18, .int), (cA15, .int), (cA16, .int), (cA17, .int), (cA107, .int)] H _ := I
  refine W.eq (g2 := F0 m 40 ls []) rfl ?_
  refine lv_aload_n hx hb d24_Bui_open_40 rfl (lv_at hl 0 rfl) ?_
  refine q_get C I 0 2 rfl rfl i_Bui (by decide) m24_20 rfl d24_Bui_open_41 ?_
  refine lv_aload_n hx hb d24_Bui_open_44 rfl (lv_at hl 1 rfl) ?_
  refine q_go (wr := [(q98, .inr (9, [.ref q3, .ref q19, .ref q20, .ref q31, .ref q67, .ref q99, .ref q100, .ref q101, .int 0, .ref q102, .int 0, .int 0, .ref q103, .ref q104, .ref q105, .int 0, .int 0, .int 0])), (q31, .inr (5, [.ref q3, .ref q19, .ref q20, .ref q32, .int 0, .int 0, .int 0, .long 0, .long 0])), (q19, .inr (2, [.ref q3, .int 0, .int (-1), .int 0, .int 0, .int 0, .int 0])), (q7, .inl (cA18, 1024, .inl g1)), (q4, .inl (cA15, 32769, .inl (upd g_q4 0 5))), (q5, .inl (cA16, 32769, .inl (upd g_q5 0 0))), (q6, .inl (cA17, 32769, .inl (upd g_q6 0 0))), (q102, .inl (cA107, 16385, .inl g_q102))]) (tyr := [(cA18, .int), (cA15, .int), (cA16, .int), (cA17, .int), (cA107, .int)]) C I (q_siteV (As := [.ref q67]) (rest := []) (q0 := 2) C I rfl rfl m24_21 m24_23 m24_24 m24_22 ⟨by decide, by decide⟩ (Eq.trans (b := some 1) (by decide +kernel) rfl) rfl d24_Bui_open_45) (c_Mak_open l D q20 q67 q3 q19 q21 q24 q25 q26 q27 q28 q29 q68 q69 q70 q71 q72 q73 q74 q75 q76 q77 q78 q79 q80 q81 q68 q4 q5 q6 q7 q8 q9 q10 q11 q12 q13 q14 cA30 g_q24) m24_22 m24_25 [2, 1, 7, 3] [0, 4, 5, 6, 8, 9, 10, 11] [0] [1, 2, 3, 4, 5] rfl rfl (by decide) (by decide) (by decide) rfl rfl hl.1 d24_Bui_open_45 (Nat.le_of_ble_eq_true rfl) (Nat.le_of_ble_eq_true rfl) (Nat.le_of_ble_eq_true rfl) (Nat.le_of_ble_eq_true rfl) (fun v w ty H locs hp I => ?_) (fun E w ty H locs q ce hp _ _ _ _ => ?_)
  rotate_left
  · obtain ⟨hv, -⟩ := hp; cases hv
  obtain ⟨hv, rfl, rfl⟩ := hp
  cases hv
  have I : q_I D q_cl _ s [(q98, .inr (9, [.ref q3, .ref q19, .ref q20, .ref q31, .ref q67, .ref q99, .ref q100, .ref q101, .int 0, .ref q102, .int 0, .int 0, .ref q103, .ref q104, .ref q105, .int 0, .int 0, .int 0])), (q31, .inr (5, [.ref q3, .ref q19, .ref q20, .ref q32, .int 0, .int 0, .int 0, .long 0, .long 0])), (q19, .inr (2, [.ref q3, .int 0, .int (-1), .int 0, .int 0, .int 0, .int 0])), (q7, .inl (cA18, 1024, .inl g1)), (q4, .inl (cA15, 32769, .inl (upd g_q4 0 5))), (q5, .inl (cA16, 32769, .inl (upd g_q5 0 0))), (q6, .inl (cA17, 32769, .inl (upd g_q6 0 0))), (q102, .inl (cA107, 16385, .inl g_q102)), (q20, .inr (3, [.ref q3, .ref q19, .ref q21, .ref q67, .ref q69, .int 0, .int 0, .int 0, .int 0, .int 0, .int 0, .ref q24, .ref q25, .ref q26, .ref q27, .ref q28, .ref q29, .int 0])), (q67, .inr (6, [.ref q68, .ref q69, .ref q70, .int 0, .ref q71, .ref q72, .int 0, .int 0, .ref q73, .ref q74, .ref q75, .int 0, .ref q76, .ref q77, .ref q78, .int 0, .ref q79, .int 0, .ref q80, .ref q81])), (q3, .inr (1, [.ref q68, .int 0, .ref q4, .ref q5, .ref q6, .int (0 + 1), .ref q7, .ref q8, .ref q9, .ref q10, .ref q11, .int 0, .ref q12, .ref q13, .ref q14, .int 0, .long 0, .long 0, .int 0, .int 0])), (q24, .inl (cA30, 16385, .inl g_q24))] [(cA18, .int), (cA15, .int), (cA16, .int), (cA17, .int), (cA107, .int), (cA30, .int)] H _ := I
  refine W.eq (g2 := F0 m 48 ls []) rfl ?_
  refine lv_aload_n hx hb d24_Bui_open_48 rfl (lv_at hl 0 rfl) ?_
  refine q_get C I 0 2 rfl rfl i_Bui (by decide) m24_20 rfl d24_Bui_open_49 ?_
  refine lv_iconst (v := 0) hx hb d24_Bui_open_52 (by decide) ?_
  refine q_go (wr := [(q98, .inr (9, [.ref q3, .ref q19, .ref q20, .ref q31, .ref q67, .ref q99, .ref q100, .ref q101, .int 0, .ref q102, .int 0, .int 0, .ref q103, .ref q104, .ref q105, .int 0, .int 0, .int 0])), (q31, .inr (5, [.ref q3, .ref q19, .ref q20, .ref q32, .int 0, .int 0, .int 0, .long 0, .long 0])), (q7, .inl (cA18, 1024, .inl g1)), (q4, .inl (cA15, 32769, .inl (upd g_q4 0 5))), (q5, .inl (cA16, 32769, .inl (upd g_q5 0 0))), (q6, .inl (cA17, 32769, .inl (upd g_q6 0 0))), (q102, .inl (cA107, 16385, .inl g_q102)), (q67, .inr (6, [.ref q68, .ref q69, .ref q70, .int 0, .ref q71, .ref q72, .int 0, .int 0, .ref q73, .ref q74, .ref q75, .int 0, .ref q76, .ref q77, .ref q78, .int 0, .ref q79, .int 0, .ref q80, .ref q81])), (q3, .inr (1, [.ref q68, .int 0, .ref q4, .ref q5, .ref q6, .int (0 + 1), .ref q7, .ref q8, .ref q9, .ref q10, .ref q11, .int 0, .ref q12, .ref q13, .ref q14, .int 0, .long 0, .long 0, .int 0, .int 0])), (q24, .inl (cA30, 16385, .inl g_q24))]) (tyr := [(cA18, .int), (cA15, .int), (cA16, .int), (cA17, .int), (cA107, .int), (cA30, .int)]) C I (q_siteV (As := [.int 0]) (rest := []) (q0 := 8) C I rfl rfl m24_26 m24_28 m24_29 m24_27 ⟨by decide, by decide⟩ (Eq.trans (b := some 1) (by decide +kernel) rfl) rfl d24_Bui_open_53) (c_Mak_turn l D q20 q3 q19 q21 q67 q69 q24 q25 q26 q27 q28 q29) m24_27 m24_25 [8, 2] [0, 1, 3, 4, 5, 6, 7, 9, 10, 11] [] [0, 1, 2, 3, 4, 5] rfl rfl (by decide) (by decide) (by decide) rfl rfl hl.1 d24_Bui_open_53 (Nat.le_of_ble_eq_true rfl) (Nat.le_of_ble_eq_true rfl) (Nat.le_of_ble_eq_true rfl) (Nat.le_of_ble_eq_true rfl) (fun v w ty H locs hp I => ?_) (fun E w ty H locs q ce hp _ _ _ _ => ?_)
  rotate_left
  · obtain ⟨hv, -⟩ := hp; cases hv
  obtain ⟨hv, rfl, rfl⟩ := hp
  cases hv
  have I : q_I D q_cl _ s [(q98, .inr (9, [.ref q3, .ref q19, .ref q20, .ref q31, .ref q67, .ref q99, .ref q100, .ref q101, .int 0, .ref q102, .int 0, .int 0, .ref q103, .ref q104, .ref q105, .int 0, .int 0, .int 0])), (q31, .inr (5, [.ref q3, .ref q19, .ref q20, .ref q32, .int 0, .int 0, .int 0, .long 0, .long 0])), (q7, .inl (cA18, 1024, .inl g1)), (q4, .inl (cA15, 32769, .inl (upd g_q4 0 5))), (q5, .inl (cA16, 32769, .inl (upd g_q5 0 0))), (q6, .inl (cA17, 32769, .inl (upd g_q6 0 0))), (q102, .inl (cA107, 16385, .inl g_q102)), (q67, .inr (6, [.ref q68, .ref q69, .ref q70, .int 0, .ref q71, .ref q72, .int 0, .int 0, .ref q73, .ref q74, .ref q75, .int 0, .ref q76, .ref q77, .ref q78, .int 0, .ref q79, .int 0, .ref q80, .ref q81])), (q3, .inr (1, [.ref q68, .int 0, .ref q4, .ref q5, .ref q6, .int (0 + 1), .ref q7, .ref q8, .ref q9, .ref q10, .ref q11, .int 0, .ref q12, .ref q13, .ref q14, .int 0, .long 0, .long 0, .int 0, .int 0])), (q24, .inl (cA30, 16385, .inl g_q24)), (q20, .inr (3, [.ref q3, .ref q19, .ref q21, .ref q67, .ref q69, .int 0, .int 0, .int 0, .int 0, .int 0, .int 0, .ref q24, .ref q25, .ref q26, .ref q27, .ref q28, .ref q29, .int 0])), (q19, .inr (2, [.ref q3, .int 0, .int (-1), .int 0, .int 0, .int 0, .int 0]))] [(cA18, .int), (cA15, .int), (cA16, .int), (cA17, .int), (cA107, .int), (cA30, .int)] H _ := I
  refine W.eq (g2 := F0 m 56 ls []) rfl ?_
  refine lv_aload_n hx hb d24_Bui_open_56 rfl (lv_at hl 0 rfl) ?_
  refine q_get C I 0 3 rfl rfl i_Bui (by decide) m24_30 rfl d24_Bui_open_57 ?_
  refine q_go (wr := [(q98, .inr (9, [.ref q3, .ref q19, .ref q20, .ref q31, .ref q67, .ref q99, .ref q100, .ref q101, .int 0, .ref q102, .int 0, .int 0, .ref q103, .ref q104, .ref q105, .int 0, .int 0, .int 0])), (q7, .inl (cA18, 1024, .inl g1)), (q4, .inl (cA15, 32769, .inl (upd g_q4 0 5))), (q5, .inl (cA16, 32769, .inl (upd g_q5 0 0))), (q6, .inl (cA17, 32769, .inl (upd g_q6 0 0))), (q102, .inl (cA107, 16385, .inl g_q102)), (q67, .inr (6, [.ref q68, .ref q69, .ref q70, .int 0, .ref q71, .ref q72, .int 0, .int 0, .ref q73, .ref q74, .ref q75, .int 0, .ref q76, .ref q77, .ref q78, .int 0, .ref q79, .int 0, .ref q80, .ref q81])), (q3, .inr (1, [.ref q68, .int 0, .ref q4, .ref q5, .ref q6, .int (0 + 1), .ref q7, .ref q8, .ref q9, .ref q10, .ref q11, .int 0, .ref q12, .ref q13, .ref q14, .int 0, .long 0, .long 0, .int 0, .int 0])), (q24, .inl (cA30, 16385, .inl g_q24)), (q20, .inr (3, [.ref q3, .ref q19, .ref q21, .ref q67, .ref q69, .int 0, .int 0, .int 0, .int 0, .int 0, .int 0, .ref q24, .ref q25, .ref q26, .ref q27, .ref q28, .ref q29, .int 0])), (q19, .inr (2, [.ref q3, .int 0, .int (-1), .int 0, .int 0, .int 0, .int 0]))]) (tyr := [(cA18, .int), (cA15, .int), (cA16, .int), (cA17, .int), (cA107, .int), (cA30, .int)]) C I (q_siteV (As := []) (rest := []) (q0 := 1) C I rfl rfl m24_31 m24_33 m24_34 m24_32 ⟨by decide, by decide⟩ (Eq.trans (b := some 0) (by decide +kernel) rfl) rfl d24_Bui_open_60) (c_Rea_begin l D q31 q3 q19 q20 q32) m24_32 m24_35 [1] [0, 2, 3, 4, 5, 6, 7, 8, 9, 10, 11] [] [0, 1, 2, 3, 4, 5] rfl rfl (by decide) (by decide) (by decide) rfl rfl hl.1 d24_Bui_open_60 (Nat.le_of_ble_eq_true rfl) (Nat.le_of_ble_eq_true rfl) (Nat.le_of_ble_eq_true rfl) (Nat.le_of_ble_eq_true rfl) (fun v w ty H locs hp I => ?_) (fun E w ty H locs q ce hp _ _ _ _ => ?_)
  rotate_left
  · obtain ⟨hv, -⟩ := hp; cases hv
  obtain ⟨hv, rfl, rfl⟩ := hp
  cases hv
  have I : q_I D q_cl _ s [(q98, .inr (9, [.ref q3, .ref q19, .ref q20, .ref q31, .ref q67, .ref q99, .ref q100, .ref q101, .int 0, .ref q102, .int 0, .int 0, .ref q103, .ref q104, .ref q105, .int 0, .int 0, .int 0])), (q7, .inl (cA18, 1024, .inl g1)), (q4, .inl (cA15, 32769, .inl (upd g_q4 0 5))), (q5, .inl (cA16, 32769, .inl (upd g_q5 0 0))), (q6, .inl (cA17, 32769, .inl (upd g_q6 0 0))), (q102, .inl (cA107, 16385, .inl g_q102)), (q67, .inr (6, [.ref q68, .ref q69, .ref q70, .int 0, .ref q71, .ref q72, .int 0, .int 0, .ref q73, .ref q74, .ref q75, .int 0, .ref q76, .ref q77, .ref q78, .int 0, .ref q79, .int 0, .ref q80, .ref q81])), (q3, .inr (1, [.ref q68, .int 0, .ref q4, .ref q5, .ref q6, .int (0 + 1), .ref q7, .ref q8, .ref q9, .ref q10, .ref q11, .int 0, .ref q12, .ref q13, .ref q14, .int 0, .long 0, .long 0, .int 0, .int 0])), (q24, .inl (cA30, 16385, .inl g_q24)), (q20, .inr (3, [.ref q3, .ref q19, .ref q21, .ref q67, .ref q69, .int 0, .int 0, .int 0, .int 0, .int 0, .int 0, .ref q24, .ref q25, .ref q26, .ref q27, .ref q28, .ref q29, .int 0])), (q19, .inr (2, [.ref q3, .int 0, .int (-1), .int 0, .int 0, .int 0, .int 0])), (q31, .inr (5, [.ref q3, .ref q19, .ref q20, .ref q32, .int 0, .int 0, .int 0, .long 0, .long 0]))] [(cA18, .int), (cA15, .int), (cA16, .int), (cA17, .int), (cA107, .int), (cA30, .int)] H _ := I
  refine W.eq (g2 := F0 m 63 ls []) rfl ?_
  refine lv_aload_n hx hb d24_Bui_open_63 rfl (lv_at hl 0 rfl) ?_
  refine lv_iconst (v := 0) hx hb d24_Bui_open_64 (by decide) ?_
  refine q_put t_Bui t_Bui_ok n_Bui C I 0 8 rfl rfl i_Bui (by decide) m24_36 rfl rfl rfl (Nat.le_of_ble_eq_true rfl) d24_Bui_open_65 (fun H locs I => ?_)
  have I : q_I D q_cl _ s [(q98, .inr (9, [.ref q3, .ref q19, .ref q20, .ref q31, .ref q67, .ref q99, .ref q100, .ref q101, .int 0, .ref q102, .int 0, .int 0, .ref q103, .ref q104, .ref q105, .int 0, .int 0, .int 0])), (q7, .inl (cA18, 1024, .inl g1)), (q4, .inl (cA15, 32769, .inl (upd g_q4 0 5))), (q5, .inl (cA16, 32769, .inl (upd g_q5 0 0))), (q6, .inl (cA17, 32769, .inl (upd g_q6 0 0))), (q102, .inl (cA107, 16385, .inl g_q102)), (q67, .inr (6, [.ref q68, .ref q69, .ref q70, .int 0, .ref q71, .ref q72, .int 0, .int 0, .ref q73, .ref q74, .ref q75, .int 0, .ref q76, .ref q77, .ref q78, .int 0, .ref q79, .int 0, .ref q80, .ref q81])), (q3, .inr (1, [.ref q68, .int 0, .ref q4, .ref q5, .ref q6, .int (0 + 1), .ref q7, .ref q8, .ref q9, .ref q10, .ref q11, .int 0, .ref q12, .ref q13, .ref q14, .int 0, .long 0, .long 0, .int 0, .int 0])), (q24, .inl (cA30, 16385, .inl g_q24)), (q20, .inr (3, [.ref q3, .ref q19, .ref q21, .ref q67, .ref q69, .int 0, .int 0, .int 0, .int 0, .int 0, .int 0, .ref q24, .ref q25, .ref q26, .ref q27, .ref q28, .ref q29, .int 0])), (q19, .inr (2, [.ref q3, .int 0, .int (-1), .int 0, .int 0, .int 0, .int 0])), (q31, .inr (5, [.ref q3, .ref q19, .ref q20, .ref q32, .int 0, .int 0, .int 0, .long 0, .long 0]))] [(cA18, .int), (cA15, .int), (cA16, .int), (cA17, .int), (cA107, .int), (cA30, .int)] H _ := I
  refine lv_aload_n hx hb d24_Bui_open_68 rfl (lv_at hl 0 rfl) ?_
  refine lv_iconst (v := 0) hx hb d24_Bui_open_69 (by decide) ?_
  refine q_put t_Bui t_Bui_ok n_Bui C I 0 10 rfl rfl i_Bui (by decide) m24_37 rfl rfl rfl (Nat.le_of_ble_eq_true rfl) d24_Bui_open_70 (fun H locs I => ?_)
  have I : q_I D q_cl _ s [(q98, .inr (9, [.ref q3, .ref q19, .ref q20, .ref q31, .ref q67, .ref q99, .ref q100, .ref q101, .int 0, .ref q102, .int 0, .int 0, .ref q103, .ref q104, .ref q105, .int 0, .int 0, .int 0])), (q7, .inl (cA18, 1024, .inl g1)), (q4, .inl (cA15, 32769, .inl (upd g_q4 0 5))), (q5, .inl (cA16, 32769, .inl (upd g_q5 0 0))), (q6, .inl (cA17, 32769, .inl (upd g_q6 0 0))), (q102, .inl (cA107, 16385, .inl g_q102)), (q67, .inr (6, [.ref q68, .ref q69, .ref q70, .int 0, .ref q71, .ref q72, .int 0, .int 0, .ref q73, .ref q74, .ref q75, .int 0, .ref q76, .ref q77, .ref q78, .int 0, .ref q79, .int 0, .ref q80, .ref q81])), (q3, .inr (1, [.ref q68, .int 0, .ref q4, .ref q5, .ref q6, .int (0 + 1), .ref q7, .ref q8, .ref q9, .ref q10, .ref q11, .int 0, .ref q12, .ref q13, .ref q14, .int 0, .long 0, .long 0, .int 0, .int 0])), (q24, .inl (cA30, 16385, .inl g_q24)), (q20, .inr (3, [.ref q3, .ref q19, .ref q21, .ref q67, .ref q69, .int 0, .int 0, .int 0, .int 0, .int 0, .int 0, .ref q24, .ref q25, .ref q26, .ref q27, .ref q28, .ref q29, .int 0])), (q19, .inr (2, [.ref q3, .int 0, .int (-1), .int 0, .int 0, .int 0, .int 0])), (q31, .inr (5, [.ref q3, .ref q19, .ref q20, .ref q32, .int 0, .int 0, .int 0, .long 0, .long 0]))] [(cA18, .int), (cA15, .int), (cA16, .int), (cA17, .int), (cA107, .int), (cA30, .int)] H _ := I
  refine lv_aload_n hx hb d24_Bui_open_73 rfl (lv_at hl 0 rfl) ?_
  refine lv_iconst (v := 0) hx hb d24_Bui_open_74 (by decide) ?_
  refine q_put t_Bui t_Bui_ok n_Bui C I 0 11 rfl rfl i_Bui (by decide) m24_38 rfl rfl rfl (Nat.le_of_ble_eq_true rfl) d24_Bui_open_75 (fun H locs I => ?_)
  have I : q_I D q_cl _ s [(q98, .inr (9, [.ref q3, .ref q19, .ref q20, .ref q31, .ref q67, .ref q99, .ref q100, .ref q101, .int 0, .ref q102, .int 0, .int 0, .ref q103, .ref q104, .ref q105, .int 0, .int 0, .int 0])), (q7, .inl (cA18, 1024, .inl g1)), (q4, .inl (cA15, 32769, .inl (upd g_q4 0 5))), (q5, .inl (cA16, 32769, .inl (upd g_q5 0 0))), (q6, .inl (cA17, 32769, .inl (upd g_q6 0 0))), (q102, .inl (cA107, 16385, .inl g_q102)), (q67, .inr (6, [.ref q68, .ref q69, .ref q70, .int 0, .ref q71, .ref q72, .int 0, .int 0, .ref q73, .ref q74, .ref q75, .int 0, .ref q76, .ref q77, .ref q78, .int 0, .ref q79, .int 0, .ref q80, .ref q81])), (q3, .inr (1, [.ref q68, .int 0, .ref q4, .ref q5, .ref q6, .int (0 + 1), .ref q7, .ref q8, .ref q9, .ref q10, .ref q11, .int 0, .ref q12, .ref q13, .ref q14, .int 0, .long 0, .long 0, .int 0, .int 0])), (q24, .inl (cA30, 16385, .inl g_q24)), (q20, .inr (3, [.ref q3, .ref q19, .ref q21, .ref q67, .ref q69, .int 0, .int 0, .int 0, .int 0, .int 0, .int 0, .ref q24, .ref q25, .ref q26, .ref q27, .ref q28, .ref q29, .int 0])), (q19, .inr (2, [.ref q3, .int 0, .int (-1), .int 0, .int 0, .int 0, .int 0])), (q31, .inr (5, [.ref q3, .ref q19, .ref q20, .ref q32, .int 0, .int 0, .int 0, .long 0, .long 0]))] [(cA18, .int), (cA15, .int), (cA16, .int), (cA17, .int), (cA107, .int), (cA30, .int)] H _ := I
  exact q_vret C hr I ⟨g1, rfl, rfl, rfl⟩ (Nat.le_of_ble_eq_true rfl) (Nat.le_of_ble_eq_true rfl) d24_Bui_open_78
set_option maxHeartbeats 4000000 in
set_option maxRecDepth 100000 in
/-- Builder.isOpen(): true -/
theorem c_Bui_isOpen (l : Launch) (D : va_G) (q98 : Nat) (q3 : Nat) (q19 : Nat) (q20 : Nat) (q31 : Nat) (q67 : Nat) (q99 : Nat) (q100 : Nat) (q101 : Nat) (q102 : Nat) (q103 : Nat) (q104 : Nat) (q105 : Nat) : q_Met l ⟨"SignalTheatre$Builder", "isOpen", "()Z"⟩ (Cond.code ⟨"SignalTheatre$Builder", "isOpen", "()Z"⟩ prog_4_method_3_code 1 (some .boolean)) { frames := 0, cells := 0, slots := 0, locals := 0 } D q_cl [.ref q98] [(q98, .inr (9, [.ref q3, .ref q19, .ref q20, .ref q31, .ref q67, .ref q99, .ref q100, .ref q101, .int 0, .ref q102, .int 0, .int 0, .ref q103, .ref q104, .ref q105, .int 0, .int 0, .int 0]))] [] (fun r w ty => r = .inl (some (.int 1)) ∧ w = [(q98, .inr (9, [.ref q3, .ref q19, .ref q20, .ref q31, .ref q67, .ref q99, .ref q100, .ref q101, .int 0, .ref q102, .int 0, .int 0, .ref q103, .ref q104, .ref q105, .int 0, .int 0, .int 0]))] ∧ ty = []) := by
  refine q_ofW (by decide) ?_
  intro p e s m below meth c C hr hin hex I
  have hx := C.1
  have hb := C.2.1
  have hl := lv_entry ([.ref q98]) (n := 1) (Nat.le_of_ble_eq_true rfl)
  rw [lg_entry_eq]
  generalize (lg_sl ([.ref q98]) ++ List.replicate (1 - (lg_sl ([.ref q98])).length) Slot.unset).toArray = ls at hl ⊢
  have hl : lv_has ls 1 [(0, .ref q98)] := hl
  refine lv_aload_n hx hb d24_Bui_isOpen_0 rfl (lv_at hl 0 rfl) ?_
  refine q_get C I 0 11 rfl rfl i_Bui (by decide) m24_38 rfl d24_Bui_isOpen_1 ?_
  refine lv_if_ne (tgt := 11) hx hb d24_Bui_isOpen_4 (by decide) (fun h => absurd h (by decide)) (fun _ => ?_)
  refine lv_iconst (v := 1) hx hb d24_Bui_isOpen_7 (by decide) ?_
  refine lv_goto (tgt := 12) hx hb d24_Bui_isOpen_8 (by decide) ?_
  exact q_zret C hr rfl I ⟨rfl, rfl, rfl⟩ (Nat.le_of_ble_eq_true rfl) (Nat.le_of_ble_eq_true rfl) d24_Bui_isOpen_12
set_option maxHeartbeats 4000000 in
set_option maxRecDepth 100000 in
/-- Reader.kind(): the END -/
theorem c_Rea_kind (l : Launch) (D : va_G) (q31 : Nat) (q3 : Nat) (q19 : Nat) (q20 : Nat) (q32 : Nat) (q68 : Nat) (q4 : Nat) (q5 : Nat) (q6 : Nat) (q7 : Nat) (q8 : Nat) (q9 : Nat) (q10 : Nat) (q11 : Nat) (q12 : Nat) (q13 : Nat) (q14 : Nat) (cA15 : ClassId) (g_q4 : Nat → Int32) : q_Met l ⟨"SignalTheatre$Reader", "kind", "()I"⟩ (Cond.code ⟨"SignalTheatre$Reader", "kind", "()I"⟩ prog_9_method_3_code 1 (some .int)) { frames := 0, cells := 0, slots := 0, locals := 0 } D q_cl [.ref q31] [(q31, .inr (5, [.ref q3, .ref q19, .ref q20, .ref q32, .int 0, .int 0, .int 0, .long 0, .long 0])), (q3, .inr (1, [.ref q68, .int 0, .ref q4, .ref q5, .ref q6, .int (0 + 1), .ref q7, .ref q8, .ref q9, .ref q10, .ref q11, .int 0, .ref q12, .ref q13, .ref q14, .int 0, .long 0, .long 0, .int 0, .int 0])), (q4, .inl (cA15, 32769, .inl (upd g_q4 0 5)))] [(cA15, .int)] (fun r w ty => r = .inl (some (.int 5)) ∧ w = [(q31, .inr (5, [.ref q3, .ref q19, .ref q20, .ref q32, .int 0, .int 0, .int 0, .long 0, .long 0])), (q3, .inr (1, [.ref q68, .int 0, .ref q4, .ref q5, .ref q6, .int (0 + 1), .ref q7, .ref q8, .ref q9, .ref q10, .ref q11, .int 0, .ref q12, .ref q13, .ref q14, .int 0, .long 0, .long 0, .int 0, .int 0])), (q4, .inl (cA15, 32769, .inl (upd g_q4 0 5)))] ∧ ty = [(cA15, .int)]) := by
  refine q_ofW (by decide) ?_
  intro p e s m below meth c C hr hin hex I
  have hx := C.1
  have hb := C.2.1
  have hl := lv_entry ([.ref q31]) (n := 1) (Nat.le_of_ble_eq_true rfl)
  rw [lg_entry_eq]
  generalize (lg_sl ([.ref q31]) ++ List.replicate (1 - (lg_sl ([.ref q31])).length) Slot.unset).toArray = ls at hl ⊢
  have hl : lv_has ls 1 [(0, .ref q31)] := hl
  refine lv_aload_n hx hb d24_Rea_kind_0 rfl (lv_at hl 0 rfl) ?_
  refine q_get C I 0 0 rfl rfl i_Rea (by decide) m24_39 rfl d24_Rea_kind_1 ?_
  refine q_get C I 1 2 rfl rfl i_Tok (by decide) m24_40 rfl d24_Rea_kind_4 ?_
  refine lv_aload_n hx hb d24_Rea_kind_7 rfl (lv_at hl 0 rfl) ?_
  refine q_get C I 0 5 rfl rfl i_Rea (by decide) m24_41 rfl d24_Rea_kind_8 ?_
  refine q_iald C I 2 0 rfl rfl (by unfold vp_in; decide) d24_Rea_kind_11 ?_
  refine W.eq (g2 := F0 m 12 ls [.int 5]) rfl ?_
  exact q_iret C hr I ⟨rfl, rfl, rfl⟩ (Nat.le_of_ble_eq_true rfl) (Nat.le_of_ble_eq_true rfl) d24_Rea_kind_12
set_option maxHeartbeats 4000000 in
set_option maxRecDepth 100000 in
/-- Builder.noteStart() -/
theorem c_Bui_noteStart (l : Launch) (D : va_G) (q98 : Nat) (q3 : Nat) (q19 : Nat) (q20 : Nat) (q31 : Nat) (q67 : Nat) (q99 : Nat) (q100 : Nat) (q101 : Nat) (q102 : Nat) (q103 : Nat) (q104 : Nat) (q105 : Nat) (q21 : Nat) (q69 : Nat) (q24 : Nat) (q25 : Nat) (q26 : Nat) (q27 : Nat) (q28 : Nat) (q29 : Nat) (cA106 : ClassId) (g_q100 : Nat → Int32) (q32 : Nat) : q_Met l ⟨"SignalTheatre$Builder", "noteStart", "()V"⟩ (Cond.code ⟨"SignalTheatre$Builder", "noteStart", "()V"⟩ prog_4_method_8_code 1 none) { frames := 0, cells := 0, slots := 0, locals := 0 } D q_cl [.ref q98] [(q98, .inr (9, [.ref q3, .ref q19, .ref q20, .ref q31, .ref q67, .ref q99, .ref q100, .ref q101, .int 0, .ref q102, .int 0, .int 0, .ref q103, .ref q104, .ref q105, .int 0, .int 0, .int 0])), (q20, .inr (3, [.ref q3, .ref q19, .ref q21, .ref q67, .ref q69, .int 0, .int 0, .int 0, .int 0, .int 0, .int 0, .ref q24, .ref q25, .ref q26, .ref q27, .ref q28, .ref q29, .int 0])), (q100, .inl (cA106, 1821, .inl g_q100)), (q31, .inr (5, [.ref q3, .ref q19, .ref q20, .ref q32, .int 0, .int 0, .int 0, .long 0, .long 0]))] [(cA106, .int)] (fun r w ty => r = .inl none ∧ w = [(q98, .inr (9, [.ref q3, .ref q19, .ref q20, .ref q31, .ref q67, .ref q99, .ref q100, .ref q101, .int 0, .ref q102, .int 0, .int 0, .ref q103, .ref q104, .ref q105, .int 0, .int 0, .int 0])), (q20, .inr (3, [.ref q3, .ref q19, .ref q21, .ref q67, .ref q69, .int 0, .int 0, .int 0, .int 0, .int 0, .int 0, .ref q24, .ref q25, .ref q26, .ref q27, .ref q28, .ref q29, .int 0])), (q100, .inl (cA106, 1821, .inl (upd g_q100 0 0))), (q31, .inr (5, [.ref q3, .ref q19, .ref q20, .ref q32, .int 0, .int 0, .int 0, .long 0, .long 0]))] ∧ ty = [(cA106, .int)]) := by
  refine q_ofW (by decide) ?_
  intro p e s m below meth c C hr hin hex I
  have hx := C.1
  have hb := C.2.1
  have hl := lv_entry ([.ref q98]) (n := 1) (Nat.le_of_ble_eq_true rfl)
  rw [lg_entry_eq]
  generalize (lg_sl ([.ref q98]) ++ List.replicate (1 - (lg_sl ([.ref q98])).length) Slot.unset).toArray = ls at hl ⊢
  have hl : lv_has ls 1 [(0, .ref q98)] := hl
  refine lv_aload_n hx hb d24_Bui_noteStart_0 rfl (lv_at hl 0 rfl) ?_
  refine q_get C I 0 2 rfl rfl i_Bui (by decide) m24_20 rfl d24_Bui_noteStart_1 ?_
  refine q_get C I 1 6 rfl rfl i_Mak (by decide) m24_42 rfl d24_Bui_noteStart_4 ?_
  refine lv_if_ne (tgt := 36) hx hb d24_Bui_noteStart_7 (by decide) (fun h => absurd h (by decide)) (fun _ => ?_)
  refine lv_aload_n hx hb d24_Bui_noteStart_10 rfl (lv_at hl 0 rfl) ?_
  refine q_get C I 0 8 rfl rfl i_Bui (by decide) m24_36 rfl d24_Bui_noteStart_11 ?_
  refine lv_sipush (v := 1821) hx hb d24_Bui_noteStart_14 (by decide) ?_
  refine lv_icmp_ge (tgt := 36) hx hb d24_Bui_noteStart_17 (by decide) (fun h => absurd h (by decide)) (fun _ => ?_)
  refine lv_aload_n hx hb d24_Bui_noteStart_20 rfl (lv_at hl 0 rfl) ?_
  refine q_get C I 0 6 rfl rfl i_Bui (by decide) m24_43 rfl d24_Bui_noteStart_21 ?_
  refine lv_aload_n hx hb d24_Bui_noteStart_24 rfl (lv_at hl 0 rfl) ?_
  refine q_get C I 0 8 rfl rfl i_Bui (by decide) m24_36 rfl d24_Bui_noteStart_25 ?_
  refine lv_aload_n hx hb d24_Bui_noteStart_28 rfl (lv_at hl 0 rfl) ?_
  refine q_get C I 0 3 rfl rfl i_Bui (by decide) m24_30 rfl d24_Bui_noteStart_29 ?_
  refine q_get C I 3 5 rfl rfl i_Rea (by decide) m24_44 rfl d24_Bui_noteStart_32 ?_
  refine q_iast C I 2 0 rfl rfl (by unfold vp_in; decide) d24_Bui_noteStart_35 (fun H locs I => ?_)
  have I : q_I D q_cl _ s [(q98, .inr (9, [.ref q3, .ref q19, .ref q20, .ref q31, .ref q67, .ref q99, .ref q100, .ref q101, .int 0, .ref q102, .int 0, .int 0, .ref q103, .ref q104, .ref q105, .int 0, .int 0, .int 0])), (q20, .inr (3, [.ref q3, .ref q19, .ref q21, .ref q67, .ref q69, .int 0, .int 0, .int 0, .int 0, .int 0, .int 0, .ref q24, .ref q25, .ref q26, .ref q27, .ref q28, .ref q29, .int 0])), (q100, .inl (cA106, 1821, .inl (upd g_q100 0 0))), (q31, .inr (5, [.ref q3, .ref q19, .ref q20, .ref q32, .int 0, .int 0, .int 0, .long 0, .long 0]))] [(cA106, .int)] H _ := I
  exact q_vret C hr I ⟨rfl, rfl, rfl⟩ (Nat.le_of_ble_eq_true rfl) (Nat.le_of_ble_eq_true rfl) d24_Bui_noteStart_36
set_option maxHeartbeats 4000000 in
set_option maxRecDepth 100000 in
/-- Faults.refuse(1, place): throws -/
theorem c_Flt_refuse (l : Launch) (D : va_G) (hl9 : l.stackTraces = false) (q19 : Nat) (pl : Int32) (q3 : Nat) : q_Met l ⟨"SignalTheatre$Faults", "refuse", "(II)V"⟩ (Cond.code ⟨"SignalTheatre$Faults", "refuse", "(II)V"⟩ prog_7_method_5_code 3 none) { frames := 6, cells := 1, slots := 6, locals := 81 } D q_cl [.ref q19, .int 1, .int pl] [(q19, .inr (2, [.ref q3, .int 0, .int (-1), .int 0, .int 0, .int 0, .int 0]))] [] (fun r w ty => w = [] ∧ ty = [] ∧ r = Sum.inr "java/lang/IllegalStateException") := by
  refine q_ofW (by decide) ?_
  intro p e s m below meth c C hr hin hex I
  have hx := C.1
  have hb := C.2.1
  have hl := lv_entry ([.ref q19, .int 1, .int pl]) (n := 3) (Nat.le_of_ble_eq_true rfl)
  rw [lg_entry_eq]
  generalize (lg_sl ([.ref q19, .int 1, .int pl]) ++ List.replicate (3 - (lg_sl ([.ref q19, .int 1, .int pl])).length) Slot.unset).toArray = ls at hl ⊢
  have hl : lv_has ls 3 [(0, .ref q19), (1, .int 1), (2, .int pl)] := hl
  refine lv_aload_n hx hb d24_Flt_refuse_0 rfl (lv_at hl 0 rfl) ?_
  refine lv_iload_n hx hb d24_Flt_refuse_1 rfl (lv_at hl 1 rfl) ?_
  refine q_put t_Flt t_Flt_ok n_Flt C I 0 1 rfl rfl i_Flt (by decide) m24_45 rfl rfl rfl (Nat.le_of_ble_eq_true rfl) d24_Flt_refuse_2 (fun H locs I => ?_)
  have I : q_I D q_cl _ s [(q19, .inr (2, [.ref q3, .int 1, .int (-1), .int 0, .int 0, .int 0, .int 0]))] [] H _ := I
  refine lv_aload_n hx hb d24_Flt_refuse_5 rfl (lv_at hl 0 rfl) ?_
  refine lv_iload_n hx hb d24_Flt_refuse_6 rfl (lv_at hl 2 rfl) ?_
  refine q_put t_Flt t_Flt_ok n_Flt C I 0 2 rfl rfl i_Flt (by decide) m24_46 rfl rfl rfl (Nat.le_of_ble_eq_true rfl) d24_Flt_refuse_7 (fun H locs I => ?_)
  have I : q_I D q_cl _ s [(q19, .inr (2, [.ref q3, .int 1, .int pl, .int 0, .int 0, .int 0, .int 0]))] [] H _ := I
  have I : q_I D q_cl _ s [] [] _ _ := q_pick I [] [] rfl (by decide) rfl
  exact q_throw0 hl9 C hex I fit_Ise fit_names m24_47 m24_48 (tw_Ise m24_49) hl.1 d24_Flt_refuse_10 d24_Flt_refuse_13 d24_Flt_refuse_14 d24_Flt_refuse_17 (Nat.le_of_ble_eq_true rfl) (Nat.le_of_ble_eq_true rfl) (Nat.le_of_ble_eq_true rfl) (Nat.le_of_ble_eq_true rfl) ⟨rfl, rfl, rfl⟩ rfl (Nat.le_of_ble_eq_true rfl) (Nat.le_of_ble_eq_true rfl)
set_option maxHeartbeats 4000000 in
set_option maxRecDepth 100000 in
/-- Reader.take(MODULE): throws -/
theorem c_Rea_take (l : Launch) (D : va_G) (hl9 : l.stackTraces = false) (q31 : Nat) (q3 : Nat) (q19 : Nat) (q20 : Nat) (q32 : Nat) (q68 : Nat) (q4 : Nat) (q5 : Nat) (q6 : Nat) (q7 : Nat) (q8 : Nat) (q9 : Nat) (q10 : Nat) (q11 : Nat) (q12 : Nat) (q13 : Nat) (q14 : Nat) (cA15 : ClassId) (g_q4 : Nat → Int32) (cA16 : ClassId) (g_q5 : Nat → Int32) : q_Met l ⟨"SignalTheatre$Reader", "take", "(I)I"⟩ (Cond.code ⟨"SignalTheatre$Reader", "take", "(I)I"⟩ prog_9_method_5_code 2 (some .int)) { frames := 7, cells := 1, slots := 6, locals := 95 } D q_cl [.ref q31, .int 160] [(q31, .inr (5, [.ref q3, .ref q19, .ref q20, .ref q32, .int 0, .int 0, .int 0, .long 0, .long 0])), (q3, .inr (1, [.ref q68, .int 0, .ref q4, .ref q5, .ref q6, .int (0 + 1), .ref q7, .ref q8, .ref q9, .ref q10, .ref q11, .int 0, .ref q12, .ref q13, .ref q14, .int 0, .long 0, .long 0, .int 0, .int 0])), (q4, .inl (cA15, 32769, .inl (upd g_q4 0 5))), (q5, .inl (cA16, 32769, .inl (upd g_q5 0 0))), (q19, .inr (2, [.ref q3, .int 0, .int (-1), .int 0, .int 0, .int 0, .int 0]))] [(cA15, .int), (cA16, .int)] (fun r w ty => w = [] ∧ ty = [] ∧ r = Sum.inr "java/lang/IllegalStateException") := by
  refine q_ofW (by decide) ?_
  intro p e s m below meth c C hr hin hex I
  have hx := C.1
  have hb := C.2.1
  have hl := lv_entry ([.ref q31, .int 160]) (n := 2) (Nat.le_of_ble_eq_true rfl)
  rw [lg_entry_eq]
  generalize (lg_sl ([.ref q31, .int 160]) ++ List.replicate (2 - (lg_sl ([.ref q31, .int 160])).length) Slot.unset).toArray = ls at hl ⊢
  have hl : lv_has ls 2 [(0, .ref q31), (1, .int 160)] := hl
  refine lv_aload_n hx hb d24_Rea_take_0 rfl (lv_at hl 0 rfl) ?_
  refine q_get C I 0 0 rfl rfl i_Rea (by decide) m24_39 rfl d24_Rea_take_1 ?_
  refine q_get C I 1 2 rfl rfl i_Tok (by decide) m24_40 rfl d24_Rea_take_4 ?_
  refine lv_aload_n hx hb d24_Rea_take_7 rfl (lv_at hl 0 rfl) ?_
  refine q_get C I 0 5 rfl rfl i_Rea (by decide) m24_41 rfl d24_Rea_take_8 ?_
  refine q_iald C I 2 0 rfl rfl (by unfold vp_in; decide) d24_Rea_take_11 ?_
  refine W.eq (g2 := F0 m 12 ls [.int 5]) rfl ?_
  refine lv_iload_n hx hb d24_Rea_take_12 rfl (lv_at hl 1 rfl) ?_
  refine lv_icmp_ne (tgt := 41) hx hb d24_Rea_take_13 (by decide) (fun _ => ?_) (fun h => absurd h (by decide))
  refine lv_aload_n hx hb d24_Rea_take_41 rfl (lv_at hl 0 rfl) ?_
  refine q_get C I 0 1 rfl rfl i_Rea (by decide) m24_50 rfl d24_Rea_take_42 ?_
  refine lv_iconst (v := 1) hx hb d24_Rea_take_45 (by decide) ?_
  refine lv_aload_n hx hb d24_Rea_take_46 rfl (lv_at hl 0 rfl) ?_
  refine q_get C I 0 0 rfl rfl i_Rea (by decide) m24_39 rfl d24_Rea_take_47 ?_
  refine q_get C I 1 3 rfl rfl i_Tok (by decide) m24_51 rfl d24_Rea_take_50 ?_
  refine lv_aload_n hx hb d24_Rea_take_53 rfl (lv_at hl 0 rfl) ?_
  refine q_get C I 0 5 rfl rfl i_Rea (by decide) m24_41 rfl d24_Rea_take_54 ?_
  refine q_iald C I 3 1 rfl rfl (by unfold vp_in; decide) d24_Rea_take_57 ?_
  refine W.eq (g2 := F0 m 58 ls [.int 0, .int 1, .ref q19]) rfl ?_
  refine q_go (wr := [(q31, .inr (5, [.ref q3, .ref q19, .ref q20, .ref q32, .int 0, .int 0, .int 0, .long 0, .long 0])), (q3, .inr (1, [.ref q68, .int 0, .ref q4, .ref q5, .ref q6, .int (0 + 1), .ref q7, .ref q8, .ref q9, .ref q10, .ref q11, .int 0, .ref q12, .ref q13, .ref q14, .int 0, .long 0, .long 0, .int 0, .int 0])), (q4, .inl (cA15, 32769, .inl (upd g_q4 0 5))), (q5, .inl (cA16, 32769, .inl (upd g_q5 0 0)))]) (tyr := [(cA15, .int), (cA16, .int)]) C I (q_siteV (As := [.int 1, .int 0]) (rest := []) (q0 := 4) C I rfl rfl m24_52 m24_54 m24_55 m24_53 ⟨by decide, by decide⟩ (Eq.trans (b := some 2) (by decide +kernel) rfl) rfl d24_Rea_take_58) (c_Flt_refuse l D hl9 q19 0 q3) m24_53 m24_6 [4] [0, 1, 2, 3] [] [0, 1] rfl rfl (by decide) (by decide) (by decide) rfl rfl hl.1 d24_Rea_take_58 (Nat.le_of_ble_eq_true rfl) (Nat.le_of_ble_eq_true rfl) (Nat.le_of_ble_eq_true rfl) (Nat.le_of_ble_eq_true rfl) (fun v w ty H locs hp I => by obtain ⟨-, -, hv⟩ := hp; cases hv) (fun E w ty H locs q ce hp I hce hcv hcl hX => ?_)
  obtain ⟨rfl, rfl, hv⟩ := hp
  cases hv
  exact q_out C hex (q_pick I [] [] rfl (by decide) rfl) ⟨rfl, rfl, rfl⟩ hce hcv hcl q_X_nil (Nat.le_of_ble_eq_true rfl) (Nat.le_of_ble_eq_true rfl)
set_option maxHeartbeats 4000000 in
set_option maxRecDepth 100000 in
/-- Builder.head(): throws -/
theorem c_Bui_head (l : Launch) (D : va_G) (hl9 : l.stackTraces = false) (q98 : Nat) (q3 : Nat) (q19 : Nat) (q20 : Nat) (q31 : Nat) (q67 : Nat) (q99 : Nat) (q100 : Nat) (q101 : Nat) (q102 : Nat) (q103 : Nat) (q104 : Nat) (q105 : Nat) (q32 : Nat) (q68 : Nat) (q4 : Nat) (q5 : Nat) (q6 : Nat) (q7 : Nat) (q8 : Nat) (q9 : Nat) (q10 : Nat) (q11 : Nat) (q12 : Nat) (q13 : Nat) (q14 : Nat) (cA15 : ClassId) (g_q4 : Nat → Int32) (cA16 : ClassId) (g_q5 : Nat → Int32) : q_Met l ⟨"SignalTheatre$Builder", "head", "()V"⟩ (Cond.code ⟨"SignalTheatre$Builder", "head", "()V"⟩ prog_4_method_9_code 2 none) { frames := 8, cells := 1, slots := 6, locals := 108 } D q_cl [.ref q98] [(q98, .inr (9, [.ref q3, .ref q19, .ref q20, .ref q31, .ref q67, .ref q99, .ref q100, .ref q101, .int 0, .ref q102, .int 0, .int 0, .ref q103, .ref q104, .ref q105, .int 0, .int 0, .int 0])), (q31, .inr (5, [.ref q3, .ref q19, .ref q20, .ref q32, .int 0, .int 0, .int 0, .long 0, .long 0])), (q3, .inr (1, [.ref q68, .int 0, .ref q4, .ref q5, .ref q6, .int (0 + 1), .ref q7, .ref q8, .ref q9, .ref q10, .ref q11, .int 0, .ref q12, .ref q13, .ref q14, .int 0, .long 0, .long 0, .int 0, .int 0])), (q4, .inl (cA15, 32769, .inl (upd g_q4 0 5))), (q5, .inl (cA16, 32769, .inl (upd g_q5 0 0))), (q19, .inr (2, [.ref q3, .int 0, .int (-1), .int 0, .int 0, .int 0, .int 0]))] [(cA15, .int), (cA16, .int)] (fun r w ty => w = [] ∧ ty = [] ∧ r = Sum.inr "java/lang/IllegalStateException") := by
  refine q_ofW (by decide) ?_
  intro p e s m below meth c C hr hin hex I
  have hx := C.1
  have hb := C.2.1
  have hl := lv_entry ([.ref q98]) (n := 2) (Nat.le_of_ble_eq_true rfl)
  rw [lg_entry_eq]
  generalize (lg_sl ([.ref q98]) ++ List.replicate (2 - (lg_sl ([.ref q98])).length) Slot.unset).toArray = ls at hl ⊢
  have hl : lv_has ls 2 [(0, .ref q98)] := hl
  refine lv_aload_n hx hb d24_Bui_head_0 rfl (lv_at hl 0 rfl) ?_
  refine q_get C I 0 3 rfl rfl i_Bui (by decide) m24_30 rfl d24_Bui_head_1 ?_
  refine lv_sipush (v := 160) hx hb d24_Bui_head_4 (by decide) ?_
  refine q_go (wr := [(q98, .inr (9, [.ref q3, .ref q19, .ref q20, .ref q31, .ref q67, .ref q99, .ref q100, .ref q101, .int 0, .ref q102, .int 0, .int 0, .ref q103, .ref q104, .ref q105, .int 0, .int 0, .int 0]))]) (tyr := []) C I (q_siteV (As := [.int 160]) (rest := []) (q0 := 1) C I rfl rfl m24_56 m24_58 m24_59 m24_57 ⟨by decide, by decide⟩ (Eq.trans (b := some 1) (by decide +kernel) rfl) rfl d24_Bui_head_7) (c_Rea_take l D hl9 q31 q3 q19 q20 q32 q68 q4 q5 q6 q7 q8 q9 q10 q11 q12 q13 q14 cA15 g_q4 cA16 g_q5) m24_57 m24_35 [1, 2, 3, 4, 5] [0] [0, 1] [] rfl rfl (by decide) (by decide) (by decide) rfl rfl hl.1 d24_Bui_head_7 (Nat.le_of_ble_eq_true rfl) (Nat.le_of_ble_eq_true rfl) (Nat.le_of_ble_eq_true rfl) (Nat.le_of_ble_eq_true rfl) (fun v w ty H locs hp I => by obtain ⟨-, -, hv⟩ := hp; cases hv) (fun E w ty H locs q ce hp I hce hcv hcl hX => ?_)
  obtain ⟨rfl, rfl, hv⟩ := hp
  cases hv
  exact q_out C hex (q_pick I [] [] rfl (by decide) rfl) ⟨rfl, rfl, rfl⟩ hce hcv hcl q_X_nil (Nat.le_of_ble_eq_true rfl) (Nat.le_of_ble_eq_true rfl)
set_option maxHeartbeats 4000000 in
set_option maxRecDepth 100000 in
/-- Builder.item(): throws -/
theorem c_Bui_item (l : Launch) (D : va_G) (hl9 : l.stackTraces = false) (q98 : Nat) (q3 : Nat) (q19 : Nat) (q20 : Nat) (q31 : Nat) (q67 : Nat) (q99 : Nat) (q100 : Nat) (q101 : Nat) (q102 : Nat) (q103 : Nat) (q104 : Nat) (q105 : Nat) (q32 : Nat) (q68 : Nat) (q4 : Nat) (q5 : Nat) (q6 : Nat) (q7 : Nat) (q8 : Nat) (q9 : Nat) (q10 : Nat) (q11 : Nat) (q12 : Nat) (q13 : Nat) (q14 : Nat) (cA15 : ClassId) (g_q4 : Nat → Int32) (q21 : Nat) (q69 : Nat) (q24 : Nat) (q25 : Nat) (q26 : Nat) (q27 : Nat) (q28 : Nat) (q29 : Nat) (cA106 : ClassId) (g_q100 : Nat → Int32) (cA16 : ClassId) (g_q5 : Nat → Int32) : q_Met l ⟨"SignalTheatre$Builder", "item", "()V"⟩ (Cond.code ⟨"SignalTheatre$Builder", "item", "()V"⟩ prog_4_method_7_code 3 none) { frames := 9, cells := 1, slots := 6, locals := 121 } D q_cl [.ref q98] [(q98, .inr (9, [.ref q3, .ref q19, .ref q20, .ref q31, .ref q67, .ref q99, .ref q100, .ref q101, .int 0, .ref q102, .int 0, .int 0, .ref q103, .ref q104, .ref q105, .int 0, .int 0, .int 0])), (q31, .inr (5, [.ref q3, .ref q19, .ref q20, .ref q32, .int 0, .int 0, .int 0, .long 0, .long 0])), (q3, .inr (1, [.ref q68, .int 0, .ref q4, .ref q5, .ref q6, .int (0 + 1), .ref q7, .ref q8, .ref q9, .ref q10, .ref q11, .int 0, .ref q12, .ref q13, .ref q14, .int 0, .long 0, .long 0, .int 0, .int 0])), (q4, .inl (cA15, 32769, .inl (upd g_q4 0 5))), (q20, .inr (3, [.ref q3, .ref q19, .ref q21, .ref q67, .ref q69, .int 0, .int 0, .int 0, .int 0, .int 0, .int 0, .ref q24, .ref q25, .ref q26, .ref q27, .ref q28, .ref q29, .int 0])), (q100, .inl (cA106, 1821, .inl g_q100)), (q5, .inl (cA16, 32769, .inl (upd g_q5 0 0))), (q19, .inr (2, [.ref q3, .int 0, .int (-1), .int 0, .int 0, .int 0, .int 0]))] [(cA15, .int), (cA106, .int), (cA16, .int)] (fun r w ty => w = [] ∧ ty = [] ∧ r = Sum.inr "java/lang/IllegalStateException") := by
  refine q_ofW (by decide) ?_
  intro p e s m below meth c C hr hin hex I
  have hx := C.1
  have hb := C.2.1
  have hl := lv_entry ([.ref q98]) (n := 3) (Nat.le_of_ble_eq_true rfl)
  rw [lg_entry_eq]
  generalize (lg_sl ([.ref q98]) ++ List.replicate (3 - (lg_sl ([.ref q98])).length) Slot.unset).toArray = ls at hl ⊢
  have hl : lv_has ls 3 [(0, .ref q98)] := hl
  refine lv_aload_n hx hb d24_Bui_item_0 rfl (lv_at hl 0 rfl) ?_
  refine q_get C I 0 3 rfl rfl i_Bui (by decide) m24_30 rfl d24_Bui_item_1 ?_
  refine q_go (wr := [(q98, .inr (9, [.ref q3, .ref q19, .ref q20, .ref q31, .ref q67, .ref q99, .ref q100, .ref q101, .int 0, .ref q102, .int 0, .int 0, .ref q103, .ref q104, .ref q105, .int 0, .int 0, .int 0])), (q20, .inr (3, [.ref q3, .ref q19, .ref q21, .ref q67, .ref q69, .int 0, .int 0, .int 0, .int 0, .int 0, .int 0, .ref q24, .ref q25, .ref q26, .ref q27, .ref q28, .ref q29, .int 0])), (q100, .inl (cA106, 1821, .inl g_q100)), (q5, .inl (cA16, 32769, .inl (upd g_q5 0 0))), (q19, .inr (2, [.ref q3, .int 0, .int (-1), .int 0, .int 0, .int 0, .int 0]))]) (tyr := [(cA106, .int), (cA16, .int)]) C I (q_siteV (As := []) (rest := []) (q0 := 1) C I rfl rfl m24_60 m24_62 m24_63 m24_61 ⟨by decide, by decide⟩ (Eq.trans (b := some 0) (by decide +kernel) rfl) rfl d24_Bui_item_4) (c_Rea_kind l D q31 q3 q19 q20 q32 q68 q4 q5 q6 q7 q8 q9 q10 q11 q12 q13 q14 cA15 g_q4) m24_61 m24_35 [1, 2, 3] [0, 4, 5, 6, 7] [0] [1, 2] rfl rfl (by decide) (by decide) (by decide) rfl rfl hl.1 d24_Bui_item_4 (Nat.le_of_ble_eq_true rfl) (Nat.le_of_ble_eq_true rfl) (Nat.le_of_ble_eq_true rfl) (Nat.le_of_ble_eq_true rfl) (fun v w ty H locs hp I => ?_) (fun E w ty H locs q ce hp _ _ _ _ => ?_)
  rotate_left
  · obtain ⟨hv, -⟩ := hp; cases hv
  obtain ⟨hv, rfl, rfl⟩ := hp
  cases hv
  have I : q_I D q_cl _ s [(q98, .inr (9, [.ref q3, .ref q19, .ref q20, .ref q31, .ref q67, .ref q99, .ref q100, .ref q101, .int 0, .ref q102, .int 0, .int 0, .ref q103, .ref q104, .ref q105, .int 0, .int 0, .int 0])), (q20, .inr (3, [.ref q3, .ref q19, .ref q21, .ref q67, .ref q69, .int 0, .int 0, .int 0, .int 0, .int 0, .int 0, .ref q24, .ref q25, .ref q26, .ref q27, .ref q28, .ref q29, .int 0])), (q100, .inl (cA106, 1821, .inl g_q100)), (q5, .inl (cA16, 32769, .inl (upd g_q5 0 0))), (q19, .inr (2, [.ref q3, .int 0, .int (-1), .int 0, .int 0, .int 0, .int 0])), (q31, .inr (5, [.ref q3, .ref q19, .ref q20, .ref q32, .int 0, .int 0, .int 0, .long 0, .long 0])), (q3, .inr (1, [.ref q68, .int 0, .ref q4, .ref q5, .ref q6, .int (0 + 1), .ref q7, .ref q8, .ref q9, .ref q10, .ref q11, .int 0, .ref q12, .ref q13, .ref q14, .int 0, .long 0, .long 0, .int 0, .int 0])), (q4, .inl (cA15, 32769, .inl (upd g_q4 0 5)))] [(cA106, .int), (cA16, .int), (cA15, .int)] H _ := I
  refine W.eq (g2 := F0 m 7 ls [.int 5]) rfl ?_
  refine lv_istore_n (lv' := [(1, .int 5), (0, .ref q98)]) hx hb d24_Bui_item_7 rfl hl (by decide) rfl (fun ls hl => ?_)
  refine lv_aload_n hx hb d24_Bui_item_8 rfl (lv_at hl 1 rfl) ?_
  refine q_get C I 0 10 rfl rfl i_Bui (by decide) m24_37 rfl d24_Bui_item_9 ?_
  refine lv_if_ne (tgt := 50) hx hb d24_Bui_item_12 (by decide) (fun h => absurd h (by decide)) (fun _ => ?_)
  refine lv_aload_n hx hb d24_Bui_item_15 rfl (lv_at hl 1 rfl) ?_
  refine q_go (wr := [(q5, .inl (cA16, 32769, .inl (upd g_q5 0 0))), (q19, .inr (2, [.ref q3, .int 0, .int (-1), .int 0, .int 0, .int 0, .int 0])), (q3, .inr (1, [.ref q68, .int 0, .ref q4, .ref q5, .ref q6, .int (0 + 1), .ref q7, .ref q8, .ref q9, .ref q10, .ref q11, .int 0, .ref q12, .ref q13, .ref q14, .int 0, .long 0, .long 0, .int 0, .int 0])), (q4, .inl (cA15, 32769, .inl (upd g_q4 0 5)))]) (tyr := [(cA16, .int), (cA15, .int)]) C I (q_siteV (As := []) (rest := []) (q0 := 0) C I rfl rfl m24_64 m24_66 m24_67 m24_65 ⟨by decide, by decide⟩ (Eq.trans (b := some 0) (by decide +kernel) rfl) rfl d24_Bui_item_16) (c_Bui_noteStart l D q98 q3 q19 q20 q31 q67 q99 q100 q101 q102 q103 q104 q105 q21 q69 q24 q25 q26 q27 q28 q29 cA106 g_q100 q32) m24_65 m24_68 [0, 1, 2, 5] [3, 4, 6, 7] [0] [1, 2] rfl rfl (by decide) (by decide) (by decide) rfl rfl hl.1 d24_Bui_item_16 (Nat.le_of_ble_eq_true rfl) (Nat.le_of_ble_eq_true rfl) (Nat.le_of_ble_eq_true rfl) (Nat.le_of_ble_eq_true rfl) (fun v w ty H locs hp I => ?_) (fun E w ty H locs q ce hp _ _ _ _ => ?_)
  rotate_left
  · obtain ⟨hv, -⟩ := hp; cases hv
  obtain ⟨hv, rfl, rfl⟩ := hp
  cases hv
  have I : q_I D q_cl _ s [(q5, .inl (cA16, 32769, .inl (upd g_q5 0 0))), (q19, .inr (2, [.ref q3, .int 0, .int (-1), .int 0, .int 0, .int 0, .int 0])), (q3, .inr (1, [.ref q68, .int 0, .ref q4, .ref q5, .ref q6, .int (0 + 1), .ref q7, .ref q8, .ref q9, .ref q10, .ref q11, .int 0, .ref q12, .ref q13, .ref q14, .int 0, .long 0, .long 0, .int 0, .int 0])), (q4, .inl (cA15, 32769, .inl (upd g_q4 0 5))), (q98, .inr (9, [.ref q3, .ref q19, .ref q20, .ref q31, .ref q67, .ref q99, .ref q100, .ref q101, .int 0, .ref q102, .int 0, .int 0, .ref q103, .ref q104, .ref q105, .int 0, .int 0, .int 0])), (q20, .inr (3, [.ref q3, .ref q19, .ref q21, .ref q67, .ref q69, .int 0, .int 0, .int 0, .int 0, .int 0, .int 0, .ref q24, .ref q25, .ref q26, .ref q27, .ref q28, .ref q29, .int 0])), (q100, .inl (cA106, 1821, .inl (upd g_q100 0 0))), (q31, .inr (5, [.ref q3, .ref q19, .ref q20, .ref q32, .int 0, .int 0, .int 0, .long 0, .long 0]))] [(cA16, .int), (cA15, .int), (cA106, .int)] H _ := I
  refine W.eq (g2 := F0 m 19 ls []) rfl ?_
  refine lv_aload_n hx hb d24_Bui_item_19 rfl (lv_at hl 1 rfl) ?_
  refine q_go (wr := [(q20, .inr (3, [.ref q3, .ref q19, .ref q21, .ref q67, .ref q69, .int 0, .int 0, .int 0, .int 0, .int 0, .int 0, .ref q24, .ref q25, .ref q26, .ref q27, .ref q28, .ref q29, .int 0])), (q100, .inl (cA106, 1821, .inl (upd g_q100 0 0)))]) (tyr := [(cA106, .int)]) C I (q_siteV (As := []) (rest := []) (q0 := 4) C I rfl rfl m24_69 m24_71 m24_72 m24_70 ⟨by decide, by decide⟩ (Eq.trans (b := some 0) (by decide +kernel) rfl) rfl d24_Bui_item_20) (c_Bui_head l D hl9 q98 q3 q19 q20 q31 q67 q99 q100 q101 q102 q103 q104 q105 q32 q68 q4 q5 q6 q7 q8 q9 q10 q11 q12 q13 q14 cA15 g_q4 cA16 g_q5) m24_70 m24_68 [4, 7, 2, 3, 0, 1] [5, 6] [1, 0] [2] rfl rfl (by decide) (by decide) (by decide) rfl rfl hl.1 d24_Bui_item_20 (Nat.le_of_ble_eq_true rfl) (Nat.le_of_ble_eq_true rfl) (Nat.le_of_ble_eq_true rfl) (Nat.le_of_ble_eq_true rfl) (fun v w ty H locs hp I => by obtain ⟨-, -, hv⟩ := hp; cases hv) (fun E w ty H locs q ce hp I hce hcv hcl hX => ?_)
  obtain ⟨rfl, rfl, hv⟩ := hp
  cases hv
  exact q_out C hex (q_pick I [] [] rfl (by decide) rfl) ⟨rfl, rfl, rfl⟩ hce hcv hcl q_X_nil (Nat.le_of_ble_eq_true rfl) (Nat.le_of_ble_eq_true rfl)
set_option maxHeartbeats 4000000 in
set_option maxRecDepth 100000 in
/-- build() of an empty INPUT: throws -/
theorem c_S_build (l : Launch) (D : va_G) (hl9 : l.stackTraces = false) (h0 : Nat) (q1 : Nat) (q36 : Nat) (q67 : Nat) (q19 : Nat) (q98 : Nat) (q108 : Nat) (cA2 : ClassId) (g_q1 : Nat → Int32) (q3 : Nat) (q68 : Nat) (q69 : Nat) (q70 : Nat) (q71 : Nat) (q72 : Nat) (q73 : Nat) (q74 : Nat) (q75 : Nat) (q76 : Nat) (q77 : Nat) (q78 : Nat) (q79 : Nat) (q80 : Nat) (q81 : Nat) (cA82 : ClassId) (g_q68 : Nat → Int32) (q83 : Nat) (q84 : Nat) (q85 : Nat) (q86 : Nat) (q87 : Nat) (q88 : Nat) (q89 : Nat) (q90 : Nat) (q91 : Nat) (q92 : Nat) (q93 : Nat) (q94 : Nat) (q95 : Nat) (q96 : Nat) (q97 : Nat) (q20 : Nat) (q31 : Nat) (q99 : Nat) (q100 : Nat) (q101 : Nat) (q102 : Nat) (q103 : Nat) (q104 : Nat) (q105 : Nat) (cA106 : ClassId) (g_q100 : Nat → Int32) (cA107 : ClassId) (g_q102 : Nat → Int32) (q4 : Nat) (q5 : Nat) (q6 : Nat) (q7 : Nat) (q8 : Nat) (q9 : Nat) (q10 : Nat) (q11 : Nat) (q12 : Nat) (q13 : Nat) (q14 : Nat) (cA15 : ClassId) (g_q4 : Nat → Int32) (cA16 : ClassId) (g_q5 : Nat → Int32) (cA17 : ClassId) (g_q6 : Nat → Int32) (cA18 : ClassId) (g_q7 : Nat → Int32) (q21 : Nat) (q24 : Nat) (q25 : Nat) (q26 : Nat) (q27 : Nat) (q28 : Nat) (q29 : Nat) (cA30 : ClassId) (g_q24 : Nat → Int32) (q32 : Nat) : q_Met l ⟨"SignalTheatre", "build", "()I"⟩ (Cond.code ⟨"SignalTheatre", "build", "()I"⟩ prog_1_method_5_code 3 (some .int)) { frames := 10, cells := 1, slots := 6, locals := 135 } D q_cl [.ref h0] [(h0, .inr (0, [.ref q1, .int 0, .int 0, .ref q36, .ref q67, .ref q19, .ref q98, .ref q108])), (q1, .inl (cA2, 32768, .inl g_q1)), (q19, .inr (2, [.ref q3, .int 0, .int (-1), .int 0, .int 0, .int 0, .int 0])), (q67, .inr (6, [.ref q68, .ref q69, .ref q70, .int 0, .ref q71, .ref q72, .int 0, .int 0, .ref q73, .ref q74, .ref q75, .int 0, .ref q76, .ref q77, .ref q78, .int 0, .ref q79, .int 0, .ref q80, .ref q81])), (q68, .inl (cA82, 32768, .inl g_q68)), (q69, .inr (7, [.ref q83, .ref q84, .ref q85, .ref q86, .ref q87, .int 0, .ref q88, .ref q89, .int 0, .ref q90, .ref q91, .ref q92, .ref q93, .ref q94, .ref q95, .ref q96, .int 0, .ref q97, .int 0, .int 0])), (q98, .inr (9, [.ref q3, .ref q19, .ref q20, .ref q31, .null, .ref q99, .ref q100, .ref q101, .int 0, .ref q102, .int 0, .int 0, .ref q103, .ref q104, .ref q105, .int 0, .int 0, .int 0])), (q100, .inl (cA106, 1821, .inl g_q100)), (q102, .inl (cA107, 16385, .inl g_q102)), (q3, .inr (1, [.null, .int 0, .ref q4, .ref q5, .ref q6, .int 0, .ref q7, .ref q8, .ref q9, .ref q10, .ref q11, .int 0, .ref q12, .ref q13, .ref q14, .int 0, .long 0, .long 0, .int 0, .int 0])), (q4, .inl (cA15, 32769, .inl g_q4)), (q5, .inl (cA16, 32769, .inl g_q5)), (q6, .inl (cA17, 32769, .inl g_q6)), (q7, .inl (cA18, 1024, .inl g_q7)), (q20, .inr (3, [.ref q3, .ref q19, .ref q21, .null, .null, .int 0, .int 0, .int 0, .int 0, .int 0, .int 0, .ref q24, .ref q25, .ref q26, .ref q27, .ref q28, .ref q29, .int 0])), (q24, .inl (cA30, 16385, .inl g_q24)), (q31, .inr (5, [.ref q3, .ref q19, .ref q20, .ref q32, .int 0, .int 0, .int 0, .long 0, .long 0]))] [(cA2, .byte), (cA82, .byte), (cA106, .int), (cA107, .int), (cA15, .int), (cA16, .int), (cA17, .int), (cA18, .int), (cA30, .int)] (fun r w ty => w = [] ∧ ty = [] ∧ r = Sum.inr "java/lang/IllegalStateException") := by
  refine q_ofW (by decide) ?_
  intro p e s m below meth c C hr hin hex I
  have hx := C.1
  have hb := C.2.1
  have hl := lv_entry ([.ref h0]) (n := 3) (Nat.le_of_ble_eq_true rfl)
  rw [lg_entry_eq]
  generalize (lg_sl ([.ref h0]) ++ List.replicate (3 - (lg_sl ([.ref h0])).length) Slot.unset).toArray = ls at hl ⊢
  have hl : lv_has ls 3 [(0, .ref h0)] := hl
  refine lv_aload_n hx hb d24_S_build_0 rfl (lv_at hl 0 rfl) ?_
  refine q_get C I 0 1 rfl rfl i_S (by decide) m24_73 rfl d24_S_build_1 ?_
  refine lv_istore_n (lv' := [(1, .int 0), (0, .ref h0)]) hx hb d24_S_build_4 rfl hl (by decide) rfl (fun ls hl => ?_)
  refine lv_aload_n hx hb d24_S_build_5 rfl (lv_at hl 1 rfl) ?_
  refine lv_iconst (v := 0) hx hb d24_S_build_6 (by decide) ?_
  refine q_put t_S t_S_ok n_S C I 0 1 rfl rfl i_S (by decide) m24_73 rfl rfl rfl (Nat.le_of_ble_eq_true rfl) d24_S_build_7 (fun H locs I => ?_)
  have I : q_I D q_cl _ s [(h0, .inr (0, [.ref q1, .int 0, .int 0, .ref q36, .ref q67, .ref q19, .ref q98, .ref q108])), (q1, .inl (cA2, 32768, .inl g_q1)), (q19, .inr (2, [.ref q3, .int 0, .int (-1), .int 0, .int 0, .int 0, .int 0])), (q67, .inr (6, [.ref q68, .ref q69, .ref q70, .int 0, .ref q71, .ref q72, .int 0, .int 0, .ref q73, .ref q74, .ref q75, .int 0, .ref q76, .ref q77, .ref q78, .int 0, .ref q79, .int 0, .ref q80, .ref q81])), (q68, .inl (cA82, 32768, .inl g_q68)), (q69, .inr (7, [.ref q83, .ref q84, .ref q85, .ref q86, .ref q87, .int 0, .ref q88, .ref q89, .int 0, .ref q90, .ref q91, .ref q92, .ref q93, .ref q94, .ref q95, .ref q96, .int 0, .ref q97, .int 0, .int 0])), (q98, .inr (9, [.ref q3, .ref q19, .ref q20, .ref q31, .null, .ref q99, .ref q100, .ref q101, .int 0, .ref q102, .int 0, .int 0, .ref q103, .ref q104, .ref q105, .int 0, .int 0, .int 0])), (q100, .inl (cA106, 1821, .inl g_q100)), (q102, .inl (cA107, 16385, .inl g_q102)), (q3, .inr (1, [.null, .int 0, .ref q4, .ref q5, .ref q6, .int 0, .ref q7, .ref q8, .ref q9, .ref q10, .ref q11, .int 0, .ref q12, .ref q13, .ref q14, .int 0, .long 0, .long 0, .int 0, .int 0])), (q4, .inl (cA15, 32769, .inl g_q4)), (q5, .inl (cA16, 32769, .inl g_q5)), (q6, .inl (cA17, 32769, .inl g_q6)), (q7, .inl (cA18, 1024, .inl g_q7)), (q20, .inr (3, [.ref q3, .ref q19, .ref q21, .null, .null, .int 0, .int 0, .int 0, .int 0, .int 0, .int 0, .ref q24, .ref q25, .ref q26, .ref q27, .ref q28, .ref q29, .int 0])), (q24, .inl (cA30, 16385, .inl g_q24)), (q31, .inr (5, [.ref q3, .ref q19, .ref q20, .ref q32, .int 0, .int 0, .int 0, .long 0, .long 0]))] [(cA2, .byte), (cA82, .byte), (cA106, .int), (cA107, .int), (cA15, .int), (cA16, .int), (cA17, .int), (cA18, .int), (cA30, .int)] H _ := I
  refine lv_aload_n hx hb d24_S_build_10 rfl (lv_at hl 1 rfl) ?_
  refine q_get C I 0 4 rfl rfl i_S (by decide) m24_74 rfl d24_S_build_11 ?_
  refine lv_aload_n hx hb d24_S_build_14 rfl (lv_at hl 1 rfl) ?_
  refine q_get C I 0 0 rfl rfl i_S (by decide) m24_75 rfl d24_S_build_15 ?_
  refine lv_iload_n hx hb d24_S_build_18 rfl (lv_at hl 0 rfl) ?_
  refine q_go (wr := [(h0, .inr (0, [.ref q1, .int 0, .int 0, .ref q36, .ref q67, .ref q19, .ref q98, .ref q108])), (q19, .inr (2, [.ref q3, .int 0, .int (-1), .int 0, .int 0, .int 0, .int 0])), (q98, .inr (9, [.ref q3, .ref q19, .ref q20, .ref q31, .null, .ref q99, .ref q100, .ref q101, .int 0, .ref q102, .int 0, .int 0, .ref q103, .ref q104, .ref q105, .int 0, .int 0, .int 0])), (q100, .inl (cA106, 1821, .inl g_q100)), (q102, .inl (cA107, 16385, .inl g_q102)), (q3, .inr (1, [.null, .int 0, .ref q4, .ref q5, .ref q6, .int 0, .ref q7, .ref q8, .ref q9, .ref q10, .ref q11, .int 0, .ref q12, .ref q13, .ref q14, .int 0, .long 0, .long 0, .int 0, .int 0])), (q4, .inl (cA15, 32769, .inl g_q4)), (q5, .inl (cA16, 32769, .inl g_q5)), (q6, .inl (cA17, 32769, .inl g_q6)), (q7, .inl (cA18, 1024, .inl g_q7)), (q20, .inr (3, [.ref q3, .ref q19, .ref q21, .null, .null, .int 0, .int 0, .int 0, .int 0, .int 0, .int 0, .ref q24, .ref q25, .ref q26, .ref q27, .ref q28, .ref q29, .int 0])), (q24, .inl (cA30, 16385, .inl g_q24)), (q31, .inr (5, [.ref q3, .ref q19, .ref q20, .ref q32, .int 0, .int 0, .int 0, .long 0, .long 0]))]) (tyr := [(cA106, .int), (cA107, .int), (cA15, .int), (cA16, .int), (cA17, .int), (cA18, .int), (cA30, .int)]) C I (q_siteV (As := [.ref q1, .int 0]) (rest := []) (q0 := 3) C I rfl rfl m24_76 m24_78 m24_79 m24_77 ⟨by decide, by decide⟩ (Eq.trans (b := some 2) (by decide +kernel) rfl) rfl d24_S_build_19) (c_Cir_clear l D q67 q1 q68 q69 q70 q71 q72 q73 q74 q75 q76 q77 q78 q79 q80 q81 cA82 g_q68 q83 q84 q85 q86 q87 q88 q89 q90 q91 q92 q93 q94 q95 q96 q97 cA2 g_q1) m24_77 m24_80 [3, 4, 5, 1] [0, 2, 6, 7, 8, 9, 10, 11, 12, 13, 14, 15, 16] [1, 0] [2, 3, 4, 5, 6, 7, 8] rfl rfl (by decide) (by decide) (by decide) rfl rfl hl.1 d24_S_build_19 (Nat.le_of_ble_eq_true rfl) (Nat.le_of_ble_eq_true rfl) (Nat.le_of_ble_eq_true rfl) (Nat.le_of_ble_eq_true rfl) (fun v w ty H locs hp I => ?_) (fun E w ty H locs q ce hp _ _ _ _ => ?_)
  rotate_left
  · obtain ⟨_, hv, -⟩ := hp; cases hv
  obtain ⟨g1, hv, rfl, rfl⟩ := hp
  cases hv
  have I : q_I D q_cl _ s [(h0, .inr (0, [.ref q1, .int 0, .int 0, .ref q36, .ref q67, .ref q19, .ref q98, .ref q108])), (q19, .inr (2, [.ref q3, .int 0, .int (-1), .int 0, .int 0, .int 0, .int 0])), (q98, .inr (9, [.ref q3, .ref q19, .ref q20, .ref q31, .null, .ref q99, .ref q100, .ref q101, .int 0, .ref q102, .int 0, .int 0, .ref q103, .ref q104, .ref q105, .int 0, .int 0, .int 0])), (q100, .inl (cA106, 1821, .inl g_q100)), (q102, .inl (cA107, 16385, .inl g_q102)), (q3, .inr (1, [.null, .int 0, .ref q4, .ref q5, .ref q6, .int 0, .ref q7, .ref q8, .ref q9, .ref q10, .ref q11, .int 0, .ref q12, .ref q13, .ref q14, .int 0, .long 0, .long 0, .int 0, .int 0])), (q4, .inl (cA15, 32769, .inl g_q4)), (q5, .inl (cA16, 32769, .inl g_q5)), (q6, .inl (cA17, 32769, .inl g_q6)), (q7, .inl (cA18, 1024, .inl g_q7)), (q20, .inr (3, [.ref q3, .ref q19, .ref q21, .null, .null, .int 0, .int 0, .int 0, .int 0, .int 0, .int 0, .ref q24, .ref q25, .ref q26, .ref q27, .ref q28, .ref q29, .int 0])), (q24, .inl (cA30, 16385, .inl g_q24)), (q31, .inr (5, [.ref q3, .ref q19, .ref q20, .ref q32, .int 0, .int 0, .int 0, .long 0, .long 0])), (q67, .inr (6, [.ref q68, .ref q69, .ref q70, .int 0, .ref q71, .ref q72, .int 0, .int 0, .ref q73, .ref q74, .ref q75, .int 0, .ref q76, .ref q77, .ref q78, .int 0, .ref q79, .int 0, .ref q80, .ref q81])), (q68, .inl (cA82, 32768, .inl g1)), (q1, .inl (cA2, 32768, .inl g_q1)), (q69, .inr (7, [.ref q83, .ref q84, .ref q85, .ref q86, .ref q87, .int 0, .ref q88, .ref q89, .int 0, .ref q90, .ref q91, .ref q92, .ref q93, .ref q94, .ref q95, .ref q96, .int 0, .ref q97, .int 0, .int 0]))] [(cA106, .int), (cA107, .int), (cA15, .int), (cA16, .int), (cA17, .int), (cA18, .int), (cA30, .int), (cA82, .byte), (cA2, .byte)] H _ := I
  refine W.eq (g2 := F0 m 22 ls []) rfl ?_
  refine lv_aload_n hx hb d24_S_build_22 rfl (lv_at hl 1 rfl) ?_
  refine q_get C I 0 6 rfl rfl i_S (by decide) m24_81 rfl d24_S_build_23 ?_
  refine lv_aload_n hx hb d24_S_build_26 rfl (lv_at hl 1 rfl) ?_
  refine q_get C I 0 4 rfl rfl i_S (by decide) m24_74 rfl d24_S_build_27 ?_
  refine lv_iload_n hx hb d24_S_build_30 rfl (lv_at hl 0 rfl) ?_
  refine q_go (wr := [(h0, .inr (0, [.ref q1, .int 0, .int 0, .ref q36, .ref q67, .ref q19, .ref q98, .ref q108])), (q100, .inl (cA106, 1821, .inl g_q100)), (q68, .inl (cA82, 32768, .inl g1)), (q1, .inl (cA2, 32768, .inl g_q1)), (q69, .inr (7, [.ref q83, .ref q84, .ref q85, .ref q86, .ref q87, .int 0, .ref q88, .ref q89, .int 0, .ref q90, .ref q91, .ref q92, .ref q93, .ref q94, .ref q95, .ref q96, .int 0, .ref q97, .int 0, .int 0]))]) (tyr := [(cA106, .int), (cA82, .byte), (cA2, .byte)]) C I (q_siteV (As := [.ref q67, .int 0]) (rest := []) (q0 := 2) C I rfl rfl m24_82 m24_84 m24_85 m24_83 ⟨by decide, by decide⟩ (Eq.trans (b := some 2) (by decide +kernel) rfl) rfl d24_S_build_31) (c_Bui_open l D q98 q67 q3 q19 q20 q31 q99 q100 q101 q102 q103 q104 q105 q4 q5 q6 q7 q8 q9 q10 q11 q12 q13 q14 cA15 g_q4 cA16 g_q5 cA17 g_q6 cA18 g_q7 q68 q69 q70 q71 q72 q73 q74 q75 q76 q77 q78 q79 q80 q81 cA107 g_q102 q21 q24 q25 q26 q27 q28 q29 cA30 g_q24 q32) m24_83 m24_68 [2, 1, 5, 6, 7, 8, 9, 13, 4, 10, 11, 12] [0, 3, 14, 15, 16] [2, 3, 4, 5, 1, 6] [0, 7, 8] rfl rfl (by decide) (by decide) (by decide) rfl rfl hl.1 d24_S_build_31 (Nat.le_of_ble_eq_true rfl) (Nat.le_of_ble_eq_true rfl) (Nat.le_of_ble_eq_true rfl) (Nat.le_of_ble_eq_true rfl) (fun v w ty H locs hp I => ?_) (fun E w ty H locs q ce hp _ _ _ _ => ?_)
  rotate_left
  · obtain ⟨_, hv, -⟩ := hp; cases hv
  obtain ⟨g2, hv, rfl, rfl⟩ := hp
  cases hv
  have I : q_I D q_cl _ s [(h0, .inr (0, [.ref q1, .int 0, .int 0, .ref q36, .ref q67, .ref q19, .ref q98, .ref q108])), (q100, .inl (cA106, 1821, .inl g_q100)), (q68, .inl (cA82, 32768, .inl g1)), (q1, .inl (cA2, 32768, .inl g_q1)), (q69, .inr (7, [.ref q83, .ref q84, .ref q85, .ref q86, .ref q87, .int 0, .ref q88, .ref q89, .int 0, .ref q90, .ref q91, .ref q92, .ref q93, .ref q94, .ref q95, .ref q96, .int 0, .ref q97, .int 0, .int 0])), (q98, .inr (9, [.ref q3, .ref q19, .ref q20, .ref q31, .ref q67, .ref q99, .ref q100, .ref q101, .int 0, .ref q102, .int 0, .int 0, .ref q103, .ref q104, .ref q105, .int 0, .int 0, .int 0])), (q7, .inl (cA18, 1024, .inl g2)), (q4, .inl (cA15, 32769, .inl (upd g_q4 0 5))), (q5, .inl (cA16, 32769, .inl (upd g_q5 0 0))), (q6, .inl (cA17, 32769, .inl (upd g_q6 0 0))), (q102, .inl (cA107, 16385, .inl g_q102)), (q67, .inr (6, [.ref q68, .ref q69, .ref q70, .int 0, .ref q71, .ref q72, .int 0, .int 0, .ref q73, .ref q74, .ref q75, .int 0, .ref q76, .ref q77, .ref q78, .int 0, .ref q79, .int 0, .ref q80, .ref q81])), (q3, .inr (1, [.ref q68, .int 0, .ref q4, .ref q5, .ref q6, .int (0 + 1), .ref q7, .ref q8, .ref q9, .ref q10, .ref q11, .int 0, .ref q12, .ref q13, .ref q14, .int 0, .long 0, .long 0, .int 0, .int 0])), (q24, .inl (cA30, 16385, .inl g_q24)), (q20, .inr (3, [.ref q3, .ref q19, .ref q21, .ref q67, .ref q69, .int 0, .int 0, .int 0, .int 0, .int 0, .int 0, .ref q24, .ref q25, .ref q26, .ref q27, .ref q28, .ref q29, .int 0])), (q19, .inr (2, [.ref q3, .int 0, .int (-1), .int 0, .int 0, .int 0, .int 0])), (q31, .inr (5, [.ref q3, .ref q19, .ref q20, .ref q32, .int 0, .int 0, .int 0, .long 0, .long 0]))] [(cA106, .int), (cA82, .byte), (cA2, .byte), (cA18, .int), (cA15, .int), (cA16, .int), (cA17, .int), (cA107, .int), (cA30, .int)] H _ := I
  refine W.eq (g2 := F0 m 34 ls []) rfl ?_
  refine lv_iconst (v := 0) hx hb d24_S_build_34 (by decide) ?_
  refine lv_istore_n (lv' := [(2, .int 0), (1, .int 0), (0, .ref h0)]) hx hb d24_S_build_35 rfl hl (by decide) rfl (fun ls hl => ?_)
  refine lv_iload_n hx hb d24_S_build_36 rfl (lv_at hl 0 rfl) ?_
  refine lv_ldc hx hb C.2.2.2.1 (C.2.2.2.2.1 _ m24_86) d24_S_build_37 ?_
  refine lv_icmp_ge (tgt := 65) hx hb d24_S_build_39 (by decide) (fun h => absurd h (by decide)) (fun _ => ?_)
  refine lv_aload_n hx hb d24_S_build_42 rfl (lv_at hl 2 rfl) ?_
  refine q_get C I 0 6 rfl rfl i_S (by decide) m24_81 rfl d24_S_build_43 ?_
  refine q_go (wr := [(h0, .inr (0, [.ref q1, .int 0, .int 0, .ref q36, .ref q67, .ref q19, .ref q98, .ref q108])), (q100, .inl (cA106, 1821, .inl g_q100)), (q68, .inl (cA82, 32768, .inl g1)), (q1, .inl (cA2, 32768, .inl g_q1)), (q69, .inr (7, [.ref q83, .ref q84, .ref q85, .ref q86, .ref q87, .int 0, .ref q88, .ref q89, .int 0, .ref q90, .ref q91, .ref q92, .ref q93, .ref q94, .ref q95, .ref q96, .int 0, .ref q97, .int 0, .int 0])), (q7, .inl (cA18, 1024, .inl g2)), (q4, .inl (cA15, 32769, .inl (upd g_q4 0 5))), (q5, .inl (cA16, 32769, .inl (upd g_q5 0 0))), (q6, .inl (cA17, 32769, .inl (upd g_q6 0 0))), (q102, .inl (cA107, 16385, .inl g_q102)), (q67, .inr (6, [.ref q68, .ref q69, .ref q70, .int 0, .ref q71, .ref q72, .int 0, .int 0, .ref q73, .ref q74, .ref q75, .int 0, .ref q76, .ref q77, .ref q78, .int 0, .ref q79, .int 0, .ref q80, .ref q81])), (q3, .inr (1, [.ref q68, .int 0, .ref q4, .ref q5, .ref q6, .int (0 + 1), .ref q7, .ref q8, .ref q9, .ref q10, .ref q11, .int 0, .ref q12, .ref q13, .ref q14, .int 0, .long 0, .long 0, .int 0, .int 0])), (q24, .inl (cA30, 16385, .inl g_q24)), (q20, .inr (3, [.ref q3, .ref q19, .ref q21, .ref q67, .ref q69, .int 0, .int 0, .int 0, .int 0, .int 0, .int 0, .ref q24, .ref q25, .ref q26, .ref q27, .ref q28, .ref q29, .int 0])), (q19, .inr (2, [.ref q3, .int 0, .int (-1), .int 0, .int 0, .int 0, .int 0])), (q31, .inr (5, [.ref q3, .ref q19, .ref q20, .ref q32, .int 0, .int 0, .int 0, .long 0, .long 0]))]) (tyr := [(cA106, .int), (cA82, .byte), (cA2, .byte), (cA18, .int), (cA15, .int), (cA16, .int), (cA17, .int), (cA107, .int), (cA30, .int)]) C I (q_siteV (As := []) (rest := []) (q0 := 5) C I rfl rfl m24_87 m24_89 m24_90 m24_88 ⟨by decide, by decide⟩ (Eq.trans (b := some 0) (by decide +kernel) rfl) rfl d24_S_build_46) (c_Bui_isOpen l D q98 q3 q19 q20 q31 q67 q99 q100 q101 q102 q103 q104 q105) m24_88 m24_68 [5] [0, 1, 2, 3, 4, 6, 7, 8, 9, 10, 11, 12, 13, 14, 15, 16] [] [0, 1, 2, 3, 4, 5, 6, 7, 8] rfl rfl (by decide) (by decide) (by decide) rfl rfl hl.1 d24_S_build_46 (Nat.le_of_ble_eq_true rfl) (Nat.le_of_ble_eq_true rfl) (Nat.le_of_ble_eq_true rfl) (Nat.le_of_ble_eq_true rfl) (fun v w ty H locs hp I => ?_) (fun E w ty H locs q ce hp _ _ _ _ => ?_)
  rotate_left
  · obtain ⟨hv, -⟩ := hp; cases hv
  obtain ⟨hv, rfl, rfl⟩ := hp
  cases hv
  have I : q_I D q_cl _ s [(h0, .inr (0, [.ref q1, .int 0, .int 0, .ref q36, .ref q67, .ref q19, .ref q98, .ref q108])), (q100, .inl (cA106, 1821, .inl g_q100)), (q68, .inl (cA82, 32768, .inl g1)), (q1, .inl (cA2, 32768, .inl g_q1)), (q69, .inr (7, [.ref q83, .ref q84, .ref q85, .ref q86, .ref q87, .int 0, .ref q88, .ref q89, .int 0, .ref q90, .ref q91, .ref q92, .ref q93, .ref q94, .ref q95, .ref q96, .int 0, .ref q97, .int 0, .int 0])), (q7, .inl (cA18, 1024, .inl g2)), (q4, .inl (cA15, 32769, .inl (upd g_q4 0 5))), (q5, .inl (cA16, 32769, .inl (upd g_q5 0 0))), (q6, .inl (cA17, 32769, .inl (upd g_q6 0 0))), (q102, .inl (cA107, 16385, .inl g_q102)), (q67, .inr (6, [.ref q68, .ref q69, .ref q70, .int 0, .ref q71, .ref q72, .int 0, .int 0, .ref q73, .ref q74, .ref q75, .int 0, .ref q76, .ref q77, .ref q78, .int 0, .ref q79, .int 0, .ref q80, .ref q81])), (q3, .inr (1, [.ref q68, .int 0, .ref q4, .ref q5, .ref q6, .int (0 + 1), .ref q7, .ref q8, .ref q9, .ref q10, .ref q11, .int 0, .ref q12, .ref q13, .ref q14, .int 0, .long 0, .long 0, .int 0, .int 0])), (q24, .inl (cA30, 16385, .inl g_q24)), (q20, .inr (3, [.ref q3, .ref q19, .ref q21, .ref q67, .ref q69, .int 0, .int 0, .int 0, .int 0, .int 0, .int 0, .ref q24, .ref q25, .ref q26, .ref q27, .ref q28, .ref q29, .int 0])), (q19, .inr (2, [.ref q3, .int 0, .int (-1), .int 0, .int 0, .int 0, .int 0])), (q31, .inr (5, [.ref q3, .ref q19, .ref q20, .ref q32, .int 0, .int 0, .int 0, .long 0, .long 0])), (q98, .inr (9, [.ref q3, .ref q19, .ref q20, .ref q31, .ref q67, .ref q99, .ref q100, .ref q101, .int 0, .ref q102, .int 0, .int 0, .ref q103, .ref q104, .ref q105, .int 0, .int 0, .int 0]))] [(cA106, .int), (cA82, .byte), (cA2, .byte), (cA18, .int), (cA15, .int), (cA16, .int), (cA17, .int), (cA107, .int), (cA30, .int)] H _ := I
  refine W.eq (g2 := F0 m 49 ls [.int 1]) rfl ?_
  refine lv_if_eq (tgt := 65) hx hb d24_S_build_49 (by decide) (fun h => absurd h (by decide)) (fun _ => ?_)
  refine lv_aload_n hx hb d24_S_build_52 rfl (lv_at hl 2 rfl) ?_
  refine q_get C I 0 6 rfl rfl i_S (by decide) m24_81 rfl d24_S_build_53 ?_
  refine q_go (wr := [(h0, .inr (0, [.ref q1, .int 0, .int 0, .ref q36, .ref q67, .ref q19, .ref q98, .ref q108])), (q68, .inl (cA82, 32768, .inl g1)), (q1, .inl (cA2, 32768, .inl g_q1)), (q69, .inr (7, [.ref q83, .ref q84, .ref q85, .ref q86, .ref q87, .int 0, .ref q88, .ref q89, .int 0, .ref q90, .ref q91, .ref q92, .ref q93, .ref q94, .ref q95, .ref q96, .int 0, .ref q97, .int 0, .int 0])), (q7, .inl (cA18, 1024, .inl g2)), (q6, .inl (cA17, 32769, .inl (upd g_q6 0 0))), (q102, .inl (cA107, 16385, .inl g_q102)), (q67, .inr (6, [.ref q68, .ref q69, .ref q70, .int 0, .ref q71, .ref q72, .int 0, .int 0, .ref q73, .ref q74, .ref q75, .int 0, .ref q76, .ref q77, .ref q78, .int 0, .ref q79, .int 0, .ref q80, .ref q81])), (q24, .inl (cA30, 16385, .inl g_q24))]) (tyr := [(cA82, .byte), (cA2, .byte), (cA18, .int), (cA17, .int), (cA107, .int), (cA30, .int)]) C I (q_siteV (As := []) (rest := []) (q0 := 16) C I rfl rfl m24_91 m24_93 m24_94 m24_92 ⟨by decide, by decide⟩ (Eq.trans (b := some 0) (by decide +kernel) rfl) rfl d24_S_build_56) (c_Bui_item l D hl9 q98 q3 q19 q20 q31 q67 q99 q100 q101 q102 q103 q104 q105 q32 q68 q4 q5 q6 q7 q8 q9 q10 q11 q12 q13 q14 cA15 g_q4 q21 q69 q24 q25 q26 q27 q28 q29 cA106 g_q100 cA16 g_q5) m24_92 m24_68 [16, 15, 11, 6, 13, 1, 7, 14] [0, 2, 3, 4, 5, 8, 9, 10, 12] [4, 0, 5] [1, 2, 3, 6, 7, 8] rfl rfl (by decide) (by decide) (by decide) rfl rfl hl.1 d24_S_build_56 (Nat.le_of_ble_eq_true rfl) (Nat.le_of_ble_eq_true rfl) (Nat.le_of_ble_eq_true rfl) (Nat.le_of_ble_eq_true rfl) (fun v w ty H locs hp I => by obtain ⟨-, -, hv⟩ := hp; cases hv) (fun E w ty H locs q ce hp I hce hcv hcl hX => ?_)
  obtain ⟨rfl, rfl, hv⟩ := hp
  cases hv
  exact q_out C hex (q_pick I [] [] rfl (by decide) rfl) ⟨rfl, rfl, rfl⟩ hce hcv hcl q_X_nil (Nat.le_of_ble_eq_true rfl) (Nat.le_of_ble_eq_true rfl)
