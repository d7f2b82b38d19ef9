set_option maxRecDepth 20000 in
theorem m27_0 : (Cond.fieldLink "SignalTheatreModel$Cut" 41 "SignalTheatreModel$Cut" "at" "I" : Cond) ∈ q_big := q_m11 (List.mem_of_getElem? (i := 135) rfl) rfl
set_option maxRecDepth 20000 in
theorem m27_1 : (Cond.fieldLink "SignalTheatreModel$Cut" 45 "SignalTheatreModel$Cut" "size" "I" : Cond) ∈ q_big := q_m11 (List.mem_of_getElem? (i := 133) rfl) rfl
set_option maxRecDepth 20000 in
theorem m27_2 : (Cond.fieldLink "SignalTheatreModel$Cut" 17 "SignalTheatreModel$Cut" "kind" "[I" : Cond) ∈ q_big := q_m11 (List.mem_of_getElem? (i := 136) rfl) rfl
set_option maxRecDepth 20000 in
theorem m27_3 : (Cond.fieldLink "SignalTheatreModel$Cut" 48 "SignalTheatreModel$Cut" "many" "I" : Cond) ∈ q_big := q_m11 (List.mem_of_getElem? (i := 134) rfl) rfl
set_option maxRecDepth 20000 in
theorem m27_4 : (Cond.fieldLink "SignalTheatreModel$Cut" 21 "SignalTheatreModel$Cut" "from" "[I" : Cond) ∈ q_big := q_m11 (List.mem_of_getElem? (i := 138) rfl) rfl
set_option maxRecDepth 20000 in
theorem m27_5 : (Cond.fieldLink "SignalTheatreModel$Cut" 24 "SignalTheatreModel$Cut" "to" "[I" : Cond) ∈ q_big := q_m11 (List.mem_of_getElem? (i := 141) rfl) rfl
set_option maxRecDepth 20000 in
theorem m27_6 : (Cond.methodLink "SignalTheatreModel$Cut" 51 ⟨"SignalTheatreModel$Cut", "look", "(I)I"⟩ : Cond) ∈ q_big := q_m13 (List.mem_of_getElem? (i := 231) rfl) rfl
set_option maxRecDepth 20000 in
theorem m27_7 : (Cond.code ⟨"SignalTheatreModel$Cut", "look", "(I)I"⟩ prog_18_method_2_code 2 (Option.some FieldType.int) : Cond) ∈ q_big := q_m13 (List.mem_of_getElem? (i := 234) rfl) rfl
set_option maxRecDepth 20000 in
theorem m27_8 : (Cond.instanceMethod ⟨"SignalTheatreModel$Cut", "look", "(I)I"⟩ : Cond) ∈ q_big := q_m13 (List.mem_of_getElem? (i := 233) rfl) rfl
set_option maxRecDepth 20000 in
theorem m27_9 : (Cond.selects "SignalTheatreModel$Cut" ⟨"SignalTheatreModel$Cut", "look", "(I)I"⟩ ⟨"SignalTheatreModel$Cut", "look", "(I)I"⟩ : Cond) ∈ q_big := q_sel (q := (⟨"SignalTheatreModel$Cut", "look", "(I)I"⟩, 17)) (List.mem_of_getElem? (i := 16) rfl)
set_option maxRecDepth 20000 in
theorem m27_10 : (Cond.initialized "SignalTheatreModel$Cut" : Cond) ∈ q_big := q_m1 (List.mem_of_getElem? (i := 16) rfl) rfl
set_option maxRecDepth 20000 in
theorem m27_11 : (Cond.methodLink "SignalTheatreModel$Cut" 69 ⟨"SignalTheatreModel$Cut", "put", "(II)V"⟩ : Cond) ∈ q_big := q_m13 (List.mem_of_getElem? (i := 239) rfl) rfl
set_option maxRecDepth 20000 in
theorem m27_12 : (Cond.code ⟨"SignalTheatreModel$Cut", "put", "(II)V"⟩ prog_18_method_5_code 3 none : Cond) ∈ q_big := q_m14 (List.mem_of_getElem? (i := 2) rfl) rfl
set_option maxRecDepth 20000 in
theorem m27_13 : (Cond.instanceMethod ⟨"SignalTheatreModel$Cut", "put", "(II)V"⟩ : Cond) ∈ q_big := q_m14 (List.mem_of_getElem? (i := 1) rfl) rfl
set_option maxRecDepth 20000 in
theorem m27_14 : (Cond.selects "SignalTheatreModel$Cut" ⟨"SignalTheatreModel$Cut", "put", "(II)V"⟩ ⟨"SignalTheatreModel$Cut", "put", "(II)V"⟩ : Cond) ∈ q_big := q_sel (q := (⟨"SignalTheatreModel$Cut", "put", "(II)V"⟩, 17)) (List.mem_of_getElem? (i := 17) rfl)
set_option maxRecDepth 20000 in
theorem m27_15 : (Cond.fieldLink "SignalTheatreModel$Cut" 55 "SignalTheatreModel$Cut" "broken" "Z" : Cond) ∈ q_big := q_m11 (List.mem_of_getElem? (i := 152) rfl) rfl
set_option maxRecDepth 20000 in
theorem m27_16 : (Cond.methodLink "SignalTheatreModel$Cut" 59 ⟨"SignalTheatreModel$Cut", "skip", "()V"⟩ : Cond) ∈ q_big := q_m13 (List.mem_of_getElem? (i := 227) rfl) rfl
set_option maxRecDepth 20000 in
theorem m27_17 : (Cond.code ⟨"SignalTheatreModel$Cut", "skip", "()V"⟩ prog_18_method_6_code 2 none : Cond) ∈ q_big := q_m13 (List.mem_of_getElem? (i := 230) rfl) rfl
set_option maxRecDepth 20000 in
theorem m27_18 : (Cond.instanceMethod ⟨"SignalTheatreModel$Cut", "skip", "()V"⟩ : Cond) ∈ q_big := q_m13 (List.mem_of_getElem? (i := 229) rfl) rfl
set_option maxRecDepth 20000 in
theorem m27_19 : (Cond.selects "SignalTheatreModel$Cut" ⟨"SignalTheatreModel$Cut", "skip", "()V"⟩ ⟨"SignalTheatreModel$Cut", "skip", "()V"⟩ : Cond) ∈ q_big := q_sel (q := (⟨"SignalTheatreModel$Cut", "skip", "()V"⟩, 17)) (List.mem_of_getElem? (i := 14) rfl)
set_option maxRecDepth 20000 in
theorem m27_20 : (Cond.methodLink "SignalTheatreModel$Cut" 66 ⟨"SignalTheatreModel$Cut", "one", "()V"⟩ : Cond) ∈ q_big := q_m14 (List.mem_of_getElem? (i := 3) rfl) rfl
set_option maxRecDepth 20000 in
theorem m27_21 : (Cond.code ⟨"SignalTheatreModel$Cut", "one", "()V"⟩ prog_18_method_9_code 4 none : Cond) ∈ q_big := q_m14 (List.mem_of_getElem? (i := 6) rfl) rfl
set_option maxRecDepth 20000 in
theorem m27_22 : (Cond.instanceMethod ⟨"SignalTheatreModel$Cut", "one", "()V"⟩ : Cond) ∈ q_big := q_m14 (List.mem_of_getElem? (i := 5) rfl) rfl
set_option maxRecDepth 20000 in
theorem m27_23 : (Cond.selects "SignalTheatreModel$Cut" ⟨"SignalTheatreModel$Cut", "one", "()V"⟩ ⟨"SignalTheatreModel$Cut", "one", "()V"⟩ : Cond) ∈ q_big := q_sel (q := (⟨"SignalTheatreModel$Cut", "one", "()V"⟩, 17)) (List.mem_of_getElem? (i := 15) rfl)
set_option maxRecDepth 20000 in
theorem m27_24 : (Cond.fieldLink "SignalTheatreModel$Tree" 12 "SignalTheatreModel$Tree" "cut" "LSignalTheatreModel$Cut;" : Cond) ∈ q_big := q_m11 (List.mem_of_getElem? (i := 219) rfl) rfl
set_option maxRecDepth 20000 in
theorem m27_25 : (Cond.fieldLink "SignalTheatreModel$Tree" 67 "SignalTheatreModel$Cut" "kind" "[I" : Cond) ∈ q_big := q_m11 (List.mem_of_getElem? (i := 137) rfl) rfl
set_option maxRecDepth 20000 in
theorem m27_26 : (Cond.fieldLink "SignalTheatreModel$Tree" 61 "SignalTheatreModel$Tree" "at" "I" : Cond) ∈ q_big := q_m12 (List.mem_of_getElem? (i := 3) rfl) rfl
set_option maxRecDepth 20000 in
theorem m27_27 : (Cond.methodLink "SignalTheatreModel$Tree" 73 ⟨"SignalTheatreModel$Tree", "kind", "()I"⟩ : Cond) ∈ q_big := q_m14 (List.mem_of_getElem? (i := 78) rfl) rfl
set_option maxRecDepth 20000 in
theorem m27_28 : (Cond.code ⟨"SignalTheatreModel$Tree", "kind", "()I"⟩ prog_19_method_3_code 1 (Option.some FieldType.int) : Cond) ∈ q_big := q_m14 (List.mem_of_getElem? (i := 81) rfl) rfl
set_option maxRecDepth 20000 in
theorem m27_29 : (Cond.instanceMethod ⟨"SignalTheatreModel$Tree", "kind", "()I"⟩ : Cond) ∈ q_big := q_m14 (List.mem_of_getElem? (i := 80) rfl) rfl
set_option maxRecDepth 20000 in
theorem m27_30 : (Cond.selects "SignalTheatreModel$Tree" ⟨"SignalTheatreModel$Tree", "kind", "()I"⟩ ⟨"SignalTheatreModel$Tree", "kind", "()I"⟩ : Cond) ∈ q_big := q_sel (q := (⟨"SignalTheatreModel$Tree", "kind", "()I"⟩, 15)) (List.mem_of_getElem? (i := 12) rfl)
set_option maxRecDepth 20000 in
theorem m27_31 : (Cond.initialized "SignalTheatreModel$Tree" : Cond) ∈ q_big := q_m1 (List.mem_of_getElem? (i := 15) rfl) rfl
set_option maxRecDepth 20000 in
theorem m27_32 : (Cond.methodLink "SignalTheatreModel$Tree" 102 ⟨"SignalTheatreModel$Tree", "word", "(Ljava/lang/String;)Z"⟩ : Cond) ∈ q_big := q_m14 (List.mem_of_getElem? (i := 74) rfl) rfl
set_option maxRecDepth 20000 in
theorem m27_33 : (Cond.code ⟨"SignalTheatreModel$Tree", "word", "(Ljava/lang/String;)Z"⟩ prog_19_method_8_code 2 (Option.some FieldType.boolean) : Cond) ∈ q_big := q_m14 (List.mem_of_getElem? (i := 77) rfl) rfl
set_option maxRecDepth 20000 in
theorem m27_34 : (Cond.instanceMethod ⟨"SignalTheatreModel$Tree", "word", "(Ljava/lang/String;)Z"⟩ : Cond) ∈ q_big := q_m14 (List.mem_of_getElem? (i := 76) rfl) rfl
set_option maxRecDepth 20000 in
theorem m27_35 : (Cond.selects "SignalTheatreModel$Tree" ⟨"SignalTheatreModel$Tree", "word", "(Ljava/lang/String;)Z"⟩ ⟨"SignalTheatreModel$Tree", "word", "(Ljava/lang/String;)Z"⟩ : Cond) ∈ q_big := q_sel (q := (⟨"SignalTheatreModel$Tree", "word", "(Ljava/lang/String;)Z"⟩, 15)) (List.mem_of_getElem? (i := 11) rfl)
set_option maxRecDepth 20000 in
theorem m27_36 : (Cond.fieldLink "SignalTheatreModel$Tree" 50 "SignalTheatreModel$Tree" "wrong" "LSignalTheatreModel$Wrong;" : Cond) ∈ q_big := q_m12 (List.mem_of_getElem? (i := 5) rfl) rfl
set_option maxRecDepth 20000 in
theorem m27_37 : (Cond.fieldLink "SignalTheatreModel$Tree" 54 "SignalTheatreModel$Wrong" "number" "I" : Cond) ∈ q_big := q_m11 (List.mem_of_getElem? (i := 207) rfl) rfl
set_option maxRecDepth 20000 in
theorem m27_38 : (Cond.fieldLink "SignalTheatreModel$Tree" 58 "SignalTheatreModel$Cut" "from" "[I" : Cond) ∈ q_big := q_m11 (List.mem_of_getElem? (i := 140) rfl) rfl
set_option maxRecDepth 20000 in
theorem m27_39 : (Cond.fieldLink "SignalTheatreModel$Tree" 64 "SignalTheatreModel$Wrong" "place" "I" : Cond) ∈ q_big := q_m11 (List.mem_of_getElem? (i := 210) rfl) rfl
set_option maxRecDepth 20000 in
theorem m27_40 : (Cond.methodLink "SignalTheatreModel$Tree" 106 ⟨"SignalTheatreModel$Tree", "hasWord", "(Ljava/lang/String;)Z"⟩ : Cond) ∈ q_big := q_m14 (List.mem_of_getElem? (i := 70) rfl) rfl
set_option maxRecDepth 20000 in
theorem m27_41 : (Cond.code ⟨"SignalTheatreModel$Tree", "hasWord", "(Ljava/lang/String;)Z"⟩ prog_19_method_9_code 2 (Option.some FieldType.boolean) : Cond) ∈ q_big := q_m14 (List.mem_of_getElem? (i := 73) rfl) rfl
set_option maxRecDepth 20000 in
theorem m27_42 : (Cond.instanceMethod ⟨"SignalTheatreModel$Tree", "hasWord", "(Ljava/lang/String;)Z"⟩ : Cond) ∈ q_big := q_m14 (List.mem_of_getElem? (i := 72) rfl) rfl
set_option maxRecDepth 20000 in
theorem m27_43 : (Cond.selects "SignalTheatreModel$Tree" ⟨"SignalTheatreModel$Tree", "hasWord", "(Ljava/lang/String;)Z"⟩ ⟨"SignalTheatreModel$Tree", "hasWord", "(Ljava/lang/String;)Z"⟩ : Cond) ∈ q_big := q_sel (q := (⟨"SignalTheatreModel$Tree", "hasWord", "(Ljava/lang/String;)Z"⟩, 15)) (List.mem_of_getElem? (i := 10) rfl)
set_option maxRecDepth 20000 in
theorem m27_44 : (Cond.methodLink "SignalTheatreModel$Tree" 76 ⟨"SignalTheatreModel$Tree", "wrong", "()LSignalTheatreModel$Wrong;"⟩ : Cond) ∈ q_big := q_m14 (List.mem_of_getElem? (i := 92) rfl) rfl
set_option maxRecDepth 20000 in
theorem m27_45 : (Cond.code ⟨"SignalTheatreModel$Tree", "wrong", "()LSignalTheatreModel$Wrong;"⟩ prog_19_method_2_code 1 (Option.some (FieldType.object "SignalTheatreModel$Wrong")) : Cond) ∈ q_big := q_m14 (List.mem_of_getElem? (i := 95) rfl) rfl
set_option maxRecDepth 20000 in
theorem m27_46 : (Cond.instanceMethod ⟨"SignalTheatreModel$Tree", "wrong", "()LSignalTheatreModel$Wrong;"⟩ : Cond) ∈ q_big := q_m14 (List.mem_of_getElem? (i := 94) rfl) rfl
set_option maxRecDepth 20000 in
theorem m27_47 : (Cond.selects "SignalTheatreModel$Tree" ⟨"SignalTheatreModel$Tree", "wrong", "()LSignalTheatreModel$Wrong;"⟩ ⟨"SignalTheatreModel$Tree", "wrong", "()LSignalTheatreModel$Wrong;"⟩ : Cond) ∈ q_big := q_sel (q := (⟨"SignalTheatreModel$Tree", "wrong", "()LSignalTheatreModel$Wrong;"⟩, 15)) (List.mem_of_getElem? (i := 13) rfl)
set_option maxRecDepth 20000 in
theorem m27_48 : (Cond.stringRef "SignalTheatreModel$Tree" 299 "module" : Cond) ∈ q_nest := q_n14 (List.mem_of_getElem? (i := 65) rfl) rfl
set_option maxRecDepth 20000 in
theorem m27_49 : (Cond.methodLink "SignalTheatreModel$Tree" 301 ⟨"SignalTheatreModel$Tree", "needWord", "(Ljava/lang/String;)V"⟩ : Cond) ∈ q_big := q_m14 (List.mem_of_getElem? (i := 66) rfl) rfl
set_option maxRecDepth 20000 in
theorem m27_50 : (Cond.code ⟨"SignalTheatreModel$Tree", "needWord", "(Ljava/lang/String;)V"⟩ prog_19_method_10_code 2 none : Cond) ∈ q_big := q_m14 (List.mem_of_getElem? (i := 69) rfl) rfl
set_option maxRecDepth 20000 in
theorem m27_51 : (Cond.instanceMethod ⟨"SignalTheatreModel$Tree", "needWord", "(Ljava/lang/String;)V"⟩ : Cond) ∈ q_big := q_m14 (List.mem_of_getElem? (i := 68) rfl) rfl
set_option maxRecDepth 20000 in
theorem m27_52 : (Cond.selects "SignalTheatreModel$Tree" ⟨"SignalTheatreModel$Tree", "needWord", "(Ljava/lang/String;)V"⟩ ⟨"SignalTheatreModel$Tree", "needWord", "(Ljava/lang/String;)V"⟩ : Cond) ∈ q_big := q_sel (q := (⟨"SignalTheatreModel$Tree", "needWord", "(Ljava/lang/String;)V"⟩, 15)) (List.mem_of_getElem? (i := 9) rfl)
set_option maxRecDepth 20000 in
theorem m27_53 : (Cond.methodLink "SignalTheatreModel$Tree" 315 ⟨"SignalTheatreModel$Cut", "cut", "([BI)V"⟩ : Cond) ∈ q_big := q_m13 (List.mem_of_getElem? (i := 223) rfl) rfl
set_option maxRecDepth 20000 in
theorem m27_54 : (Cond.code ⟨"SignalTheatreModel$Cut", "cut", "([BI)V"⟩ prog_18_method_7_code 4 none : Cond) ∈ q_big := q_m13 (List.mem_of_getElem? (i := 226) rfl) rfl
set_option maxRecDepth 20000 in
theorem m27_55 : (Cond.instanceMethod ⟨"SignalTheatreModel$Cut", "cut", "([BI)V"⟩ : Cond) ∈ q_big := q_m13 (List.mem_of_getElem? (i := 224) rfl) rfl
set_option maxRecDepth 20000 in
theorem m27_56 : (Cond.selects "SignalTheatreModel$Cut" ⟨"SignalTheatreModel$Cut", "cut", "([BI)V"⟩ ⟨"SignalTheatreModel$Cut", "cut", "([BI)V"⟩ : Cond) ∈ q_big := q_m13 (List.mem_of_getElem? (i := 225) rfl) rfl
set_option maxRecDepth 20000 in
theorem m27_57 : (Cond.fieldLink "SignalTheatreModel$Tree" 70 "SignalTheatreModel$Tree" "depth" "I" : Cond) ∈ q_big := q_m12 (List.mem_of_getElem? (i := 4) rfl) rfl
set_option maxRecDepth 20000 in
theorem m27_58 : (Cond.fieldLink "SignalTheatreModel$Tree" 118 "SignalTheatreModel$Tree" "nodes" "I" : Cond) ∈ q_big := q_m11 (List.mem_of_getElem? (i := 239) rfl) rfl
set_option maxRecDepth 20000 in
theorem m27_59 : (Cond.fieldLink "SignalTheatreModel$Tree" 318 "SignalTheatreModel$Tree" "modules" "I" : Cond) ∈ q_big := q_m12 (List.mem_of_getElem? (i := 1) rfl) rfl
set_option maxRecDepth 20000 in
theorem m27_60 : (Cond.methodLink "SignalTheatreModel$Tree" 321 ⟨"SignalTheatreModel$Tree", "module", "()I"⟩ : Cond) ∈ q_big := q_m14 (List.mem_of_getElem? (i := 61) rfl) rfl
set_option maxRecDepth 20000 in
theorem m27_61 : (Cond.code ⟨"SignalTheatreModel$Tree", "module", "()I"⟩ prog_19_method_48_code 8 (Option.some FieldType.int) : Cond) ∈ q_big := q_m14 (List.mem_of_getElem? (i := 64) rfl) rfl
set_option maxRecDepth 20000 in
theorem m27_62 : (Cond.instanceMethod ⟨"SignalTheatreModel$Tree", "module", "()I"⟩ : Cond) ∈ q_big := q_m14 (List.mem_of_getElem? (i := 63) rfl) rfl
set_option maxRecDepth 20000 in
theorem m27_63 : (Cond.selects "SignalTheatreModel$Tree" ⟨"SignalTheatreModel$Tree", "module", "()I"⟩ ⟨"SignalTheatreModel$Tree", "module", "()I"⟩ : Cond) ∈ q_big := q_sel (q := (⟨"SignalTheatreModel$Tree", "module", "()I"⟩, 15)) (List.mem_of_getElem? (i := 8) rfl)
set_option maxRecDepth 20000 in
theorem m27_64 : (Cond.fieldLink "SignalTheatreModel" 44 "SignalTheatreModel" "thrown" "I" : Cond) ∈ q_big := q_m13 (List.mem_of_getElem? (i := 170) rfl) rfl
set_option maxRecDepth 20000 in
theorem m27_65 : (Cond.fieldLink "SignalTheatreModel" 47 "SignalTheatreModel" "size" "I" : Cond) ∈ q_big := q_m13 (List.mem_of_getElem? (i := 169) rfl) rfl
set_option maxRecDepth 20000 in
theorem m27_66 : (Cond.fieldLink "SignalTheatreModel" 31 "SignalTheatreModel" "spare" "LSignalTheatreModel$Tree;" : Cond) ∈ q_big := q_m13 (List.mem_of_getElem? (i := 176) rfl) rfl
set_option maxRecDepth 20000 in
theorem m27_67 : (Cond.fieldLink "SignalTheatreModel" 8 "SignalTheatreModel" "input" "[B" : Cond) ∈ q_big := q_m13 (List.mem_of_getElem? (i := 168) rfl) rfl
set_option maxRecDepth 20000 in
theorem m27_68 : (Cond.methodLink "SignalTheatreModel" 50 ⟨"SignalTheatreModel$Tree", "read", "([BI)V"⟩ : Cond) ∈ q_big := q_m13 (List.mem_of_getElem? (i := 219) rfl) rfl
set_option maxRecDepth 20000 in
theorem m27_69 : (Cond.code ⟨"SignalTheatreModel$Tree", "read", "([BI)V"⟩ prog_19_method_49_code 5 none : Cond) ∈ q_big := q_m13 (List.mem_of_getElem? (i := 222) rfl) rfl
set_option maxRecDepth 20000 in
theorem m27_70 : (Cond.instanceMethod ⟨"SignalTheatreModel$Tree", "read", "([BI)V"⟩ : Cond) ∈ q_big := q_m13 (List.mem_of_getElem? (i := 220) rfl) rfl
set_option maxRecDepth 20000 in
theorem m27_71 : (Cond.selects "SignalTheatreModel$Tree" ⟨"SignalTheatreModel$Tree", "read", "([BI)V"⟩ ⟨"SignalTheatreModel$Tree", "read", "([BI)V"⟩ : Cond) ∈ q_big := q_m13 (List.mem_of_getElem? (i := 221) rfl) rfl
set_option maxRecDepth 20000 in
theorem m27_72 : (Cond.classLink "SignalTheatreModel" 58 "SignalTheatreModel$Wrong" : Cond) ∈ q_big := q_m13 (List.mem_of_getElem? (i := 218) rfl) rfl
set_option maxRecDepth 20000 in
theorem m27_73 : (Cond.castable "SignalTheatreModel$Wrong" "SignalTheatreModel$Wrong" : Cond) ∈ q_nest := q_n11 (List.mem_of_getElem? (i := 196) rfl) rfl
set_option maxRecDepth 20000 in
theorem m27_74 : (Cond.fieldLink "SignalTheatreModel" 60 "SignalTheatreModel$Wrong" "number" "I" : Cond) ∈ q_big := q_m11 (List.mem_of_getElem? (i := 209) rfl) rfl
set_option maxRecDepth 20000 in
theorem m27_75 : (Cond.fieldLink "SignalTheatreModel" 63 "SignalTheatreModel" "faultNumber" "I" : Cond) ∈ q_big := q_m13 (List.mem_of_getElem? (i := 171) rfl) rfl
set_option maxRecDepth 20000 in
theorem m27_76 : (Cond.fieldLink "SignalTheatreModel" 66 "SignalTheatreModel$Wrong" "place" "I" : Cond) ∈ q_big := q_m11 (List.mem_of_getElem? (i := 212) rfl) rfl
set_option maxRecDepth 20000 in
theorem m27_77 : (Cond.fieldLink "SignalTheatreModel" 14 "SignalTheatreModel" "faultPlace" "I" : Cond) ∈ q_big := q_m13 (List.mem_of_getElem? (i := 172) rfl) rfl
theorem d27_Cut_skip_0 : decode prog_18_method_6_code 0 = .ok (.aload_n 0, 1) := by decide +kernel
theorem d27_Cut_skip_1 : decode prog_18_method_6_code 1 = .ok (.getfield 41, 3) := by decide +kernel
theorem d27_Cut_skip_4 : decode prog_18_method_6_code 4 = .ok (.aload_n 0, 1) := by decide +kernel
theorem d27_Cut_skip_5 : decode prog_18_method_6_code 5 = .ok (.getfield 45, 3) := by decide +kernel
theorem d27_Cut_skip_8 : decode prog_18_method_6_code 8 = .ok (.if_icmp .ge 211, 3) := by decide +kernel
theorem d27_Cut_skip_219 : decode prog_18_method_6_code 219 = .ok (.return_, 1) := by decide +kernel
theorem d27_Cut_look_0 : decode prog_18_method_2_code 0 = .ok (.aload_n 0, 1) := by decide +kernel
theorem d27_Cut_look_1 : decode prog_18_method_2_code 1 = .ok (.getfield 41, 3) := by decide +kernel
theorem d27_Cut_look_4 : decode prog_18_method_2_code 4 = .ok (.iload_n 1, 1) := by decide +kernel
theorem d27_Cut_look_5 : decode prog_18_method_2_code 5 = .ok (.iadd, 1) := by decide +kernel
theorem d27_Cut_look_6 : decode prog_18_method_2_code 6 = .ok (.aload_n 0, 1) := by decide +kernel
theorem d27_Cut_look_7 : decode prog_18_method_2_code 7 = .ok (.getfield 45, 3) := by decide +kernel
theorem d27_Cut_look_10 : decode prog_18_method_2_code 10 = .ok (.if_icmp .ge 21, 3) := by decide +kernel
theorem d27_Cut_look_31 : decode prog_18_method_2_code 31 = .ok (.iconst (-1), 1) := by decide +kernel
theorem d27_Cut_look_32 : decode prog_18_method_2_code 32 = .ok (.ireturn, 1) := by decide +kernel
theorem d27_Cut_put_0 : decode prog_18_method_5_code 0 = .ok (.aload_n 0, 1) := by decide +kernel
theorem d27_Cut_put_1 : decode prog_18_method_5_code 1 = .ok (.getfield 17, 3) := by decide +kernel
theorem d27_Cut_put_4 : decode prog_18_method_5_code 4 = .ok (.aload_n 0, 1) := by decide +kernel
theorem d27_Cut_put_5 : decode prog_18_method_5_code 5 = .ok (.getfield 48, 3) := by decide +kernel
theorem d27_Cut_put_8 : decode prog_18_method_5_code 8 = .ok (.iload_n 1, 1) := by decide +kernel
theorem d27_Cut_put_9 : decode prog_18_method_5_code 9 = .ok (.iastore, 1) := by decide +kernel
theorem d27_Cut_put_10 : decode prog_18_method_5_code 10 = .ok (.aload_n 0, 1) := by decide +kernel
theorem d27_Cut_put_11 : decode prog_18_method_5_code 11 = .ok (.getfield 21, 3) := by decide +kernel
theorem d27_Cut_put_14 : decode prog_18_method_5_code 14 = .ok (.aload_n 0, 1) := by decide +kernel
theorem d27_Cut_put_15 : decode prog_18_method_5_code 15 = .ok (.getfield 48, 3) := by decide +kernel
theorem d27_Cut_put_18 : decode prog_18_method_5_code 18 = .ok (.iload_n 2, 1) := by decide +kernel
theorem d27_Cut_put_19 : decode prog_18_method_5_code 19 = .ok (.iastore, 1) := by decide +kernel
theorem d27_Cut_put_20 : decode prog_18_method_5_code 20 = .ok (.aload_n 0, 1) := by decide +kernel
theorem d27_Cut_put_21 : decode prog_18_method_5_code 21 = .ok (.getfield 24, 3) := by decide +kernel
theorem d27_Cut_put_24 : decode prog_18_method_5_code 24 = .ok (.aload_n 0, 1) := by decide +kernel
theorem d27_Cut_put_25 : decode prog_18_method_5_code 25 = .ok (.getfield 48, 3) := by decide +kernel
theorem d27_Cut_put_28 : decode prog_18_method_5_code 28 = .ok (.aload_n 0, 1) := by decide +kernel
theorem d27_Cut_put_29 : decode prog_18_method_5_code 29 = .ok (.getfield 41, 3) := by decide +kernel
theorem d27_Cut_put_32 : decode prog_18_method_5_code 32 = .ok (.iastore, 1) := by decide +kernel
theorem d27_Cut_put_33 : decode prog_18_method_5_code 33 = .ok (.aload_n 0, 1) := by decide +kernel
theorem d27_Cut_put_34 : decode prog_18_method_5_code 34 = .ok (.dup, 1) := by decide +kernel
theorem d27_Cut_put_35 : decode prog_18_method_5_code 35 = .ok (.getfield 48, 3) := by decide +kernel
theorem d27_Cut_put_38 : decode prog_18_method_5_code 38 = .ok (.iconst 1, 1) := by decide +kernel
theorem d27_Cut_put_39 : decode prog_18_method_5_code 39 = .ok (.iadd, 1) := by decide +kernel
theorem d27_Cut_put_40 : decode prog_18_method_5_code 40 = .ok (.putfield 48, 3) := by decide +kernel
theorem d27_Cut_put_43 : decode prog_18_method_5_code 43 = .ok (.return_, 1) := by decide +kernel
theorem d27_Cut_one_0 : decode prog_18_method_9_code 0 = .ok (.aload_n 0, 1) := by decide +kernel
theorem d27_Cut_one_1 : decode prog_18_method_9_code 1 = .ok (.iconst 0, 1) := by decide +kernel
theorem d27_Cut_one_2 : decode prog_18_method_9_code 2 = .ok (.invokevirtual 51, 3) := by decide +kernel
theorem d27_Cut_one_5 : decode prog_18_method_9_code 5 = .ok (.istore_n 1, 1) := by decide +kernel
theorem d27_Cut_one_6 : decode prog_18_method_9_code 6 = .ok (.aload_n 0, 1) := by decide +kernel
theorem d27_Cut_one_7 : decode prog_18_method_9_code 7 = .ok (.getfield 41, 3) := by decide +kernel
theorem d27_Cut_one_10 : decode prog_18_method_9_code 10 = .ok (.istore_n 2, 1) := by decide +kernel
theorem d27_Cut_one_11 : decode prog_18_method_9_code 11 = .ok (.iload_n 1, 1) := by decide +kernel
theorem d27_Cut_one_12 : decode prog_18_method_9_code 12 = .ok (.ifCond .ge 15, 3) := by decide +kernel
theorem d27_Cut_one_15 : decode prog_18_method_9_code 15 = .ok (.aload_n 0, 1) := by decide +kernel
theorem d27_Cut_one_16 : decode prog_18_method_9_code 16 = .ok (.iconst 0, 1) := by decide +kernel
theorem d27_Cut_one_17 : decode prog_18_method_9_code 17 = .ok (.aload_n 0, 1) := by decide +kernel
theorem d27_Cut_one_18 : decode prog_18_method_9_code 18 = .ok (.getfield 41, 3) := by decide +kernel
theorem d27_Cut_one_21 : decode prog_18_method_9_code 21 = .ok (.invokevirtual 69, 3) := by decide +kernel
theorem d27_Cut_one_24 : decode prog_18_method_9_code 24 = .ok (.goto 185, 3) := by decide +kernel
theorem d27_Cut_one_209 : decode prog_18_method_9_code 209 = .ok (.return_, 1) := by decide +kernel
theorem d27_Cut_cut_0 : decode prog_18_method_7_code 0 = .ok (.iconst 0, 1) := by decide +kernel
theorem d27_Cut_cut_1 : decode prog_18_method_7_code 1 = .ok (.istore_n 3, 1) := by decide +kernel
theorem d27_Cut_cut_2 : decode prog_18_method_7_code 2 = .ok (.iload_n 3, 1) := by decide +kernel
theorem d27_Cut_cut_3 : decode prog_18_method_7_code 3 = .ok (.iload_n 2, 1) := by decide +kernel
theorem d27_Cut_cut_4 : decode prog_18_method_7_code 4 = .ok (.if_icmp .ge 18, 3) := by decide +kernel
theorem d27_Cut_cut_22 : decode prog_18_method_7_code 22 = .ok (.aload_n 0, 1) := by decide +kernel
theorem d27_Cut_cut_23 : decode prog_18_method_7_code 23 = .ok (.iload_n 2, 1) := by decide +kernel
theorem d27_Cut_cut_24 : decode prog_18_method_7_code 24 = .ok (.putfield 45, 3) := by decide +kernel
theorem d27_Cut_cut_27 : decode prog_18_method_7_code 27 = .ok (.aload_n 0, 1) := by decide +kernel
theorem d27_Cut_cut_28 : decode prog_18_method_7_code 28 = .ok (.iconst 0, 1) := by decide +kernel
theorem d27_Cut_cut_29 : decode prog_18_method_7_code 29 = .ok (.putfield 41, 3) := by decide +kernel
theorem d27_Cut_cut_32 : decode prog_18_method_7_code 32 = .ok (.aload_n 0, 1) := by decide +kernel
theorem d27_Cut_cut_33 : decode prog_18_method_7_code 33 = .ok (.iconst 0, 1) := by decide +kernel
theorem d27_Cut_cut_34 : decode prog_18_method_7_code 34 = .ok (.putfield 48, 3) := by decide +kernel
theorem d27_Cut_cut_37 : decode prog_18_method_7_code 37 = .ok (.aload_n 0, 1) := by decide +kernel
theorem d27_Cut_cut_38 : decode prog_18_method_7_code 38 = .ok (.iconst 0, 1) := by decide +kernel
theorem d27_Cut_cut_39 : decode prog_18_method_7_code 39 = .ok (.putfield 55, 3) := by decide +kernel
theorem d27_Cut_cut_42 : decode prog_18_method_7_code 42 = .ok (.aload_n 0, 1) := by decide +kernel
theorem d27_Cut_cut_43 : decode prog_18_method_7_code 43 = .ok (.invokevirtual 59, 3) := by decide +kernel
theorem d27_Cut_cut_46 : decode prog_18_method_7_code 46 = .ok (.aload_n 0, 1) := by decide +kernel
theorem d27_Cut_cut_47 : decode prog_18_method_7_code 47 = .ok (.getfield 55, 3) := by decide +kernel
theorem d27_Cut_cut_50 : decode prog_18_method_7_code 50 = .ok (.ifCond .eq 14, 3) := by decide +kernel
theorem d27_Cut_cut_64 : decode prog_18_method_7_code 64 = .ok (.aload_n 0, 1) := by decide +kernel
theorem d27_Cut_cut_65 : decode prog_18_method_7_code 65 = .ok (.invokevirtual 66, 3) := by decide +kernel
theorem d27_Cut_cut_68 : decode prog_18_method_7_code 68 = .ok (.aload_n 0, 1) := by decide +kernel
theorem d27_Cut_cut_69 : decode prog_18_method_7_code 69 = .ok (.getfield 17, 3) := by decide +kernel
theorem d27_Cut_cut_72 : decode prog_18_method_7_code 72 = .ok (.aload_n 0, 1) := by decide +kernel
theorem d27_Cut_cut_73 : decode prog_18_method_7_code 73 = .ok (.getfield 48, 3) := by decide +kernel
theorem d27_Cut_cut_76 : decode prog_18_method_7_code 76 = .ok (.iconst 1, 1) := by decide +kernel
theorem d27_Cut_cut_77 : decode prog_18_method_7_code 77 = .ok (.isub, 1) := by decide +kernel
theorem d27_Cut_cut_78 : decode prog_18_method_7_code 78 = .ok (.iaload, 1) := by decide +kernel
theorem d27_Cut_cut_79 : decode prog_18_method_7_code 79 = .ok (.ifCond .eq 18, 3) := by decide +kernel
theorem d27_Cut_cut_97 : decode prog_18_method_7_code 97 = .ok (.return_, 1) := by decide +kernel
theorem d27_Tre_kind_0 : decode prog_19_method_3_code 0 = .ok (.aload_n 0, 1) := by decide +kernel
theorem d27_Tre_kind_1 : decode prog_19_method_3_code 1 = .ok (.getfield 12, 3) := by decide +kernel
theorem d27_Tre_kind_4 : decode prog_19_method_3_code 4 = .ok (.getfield 67, 3) := by decide +kernel
theorem d27_Tre_kind_7 : decode prog_19_method_3_code 7 = .ok (.aload_n 0, 1) := by decide +kernel
theorem d27_Tre_kind_8 : decode prog_19_method_3_code 8 = .ok (.getfield 61, 3) := by decide +kernel
theorem d27_Tre_kind_11 : decode prog_19_method_3_code 11 = .ok (.iaload, 1) := by decide +kernel
theorem d27_Tre_kind_12 : decode prog_19_method_3_code 12 = .ok (.ireturn, 1) := by decide +kernel
theorem d27_Tre_word_0 : decode prog_19_method_8_code 0 = .ok (.aload_n 0, 1) := by decide +kernel
theorem d27_Tre_word_1 : decode prog_19_method_8_code 1 = .ok (.invokevirtual 73, 3) := by decide +kernel
theorem d27_Tre_word_4 : decode prog_19_method_8_code 4 = .ok (.iconst 1, 1) := by decide +kernel
theorem d27_Tre_word_5 : decode prog_19_method_8_code 5 = .ok (.if_icmp .ne 19, 3) := by decide +kernel
theorem d27_Tre_word_24 : decode prog_19_method_8_code 24 = .ok (.iconst 0, 1) := by decide +kernel
theorem d27_Tre_word_25 : decode prog_19_method_8_code 25 = .ok (.ireturn, 1) := by decide +kernel
theorem d27_Tre_hasWord_0 : decode prog_19_method_9_code 0 = .ok (.aload_n 0, 1) := by decide +kernel
theorem d27_Tre_hasWord_1 : decode prog_19_method_9_code 1 = .ok (.aload_n 1, 1) := by decide +kernel
theorem d27_Tre_hasWord_2 : decode prog_19_method_9_code 2 = .ok (.invokevirtual 102, 3) := by decide +kernel
theorem d27_Tre_hasWord_5 : decode prog_19_method_9_code 5 = .ok (.ifCond .ne 5, 3) := by decide +kernel
theorem d27_Tre_hasWord_8 : decode prog_19_method_9_code 8 = .ok (.iconst 0, 1) := by decide +kernel
theorem d27_Tre_hasWord_9 : decode prog_19_method_9_code 9 = .ok (.ireturn, 1) := by decide +kernel
theorem d27_Tre_wrong_0 : decode prog_19_method_2_code 0 = .ok (.aload_n 0, 1) := by decide +kernel
theorem d27_Tre_wrong_1 : decode prog_19_method_2_code 1 = .ok (.getfield 50, 3) := by decide +kernel
theorem d27_Tre_wrong_4 : decode prog_19_method_2_code 4 = .ok (.iconst 1, 1) := by decide +kernel
theorem d27_Tre_wrong_5 : decode prog_19_method_2_code 5 = .ok (.putfield 54, 3) := by decide +kernel
theorem d27_Tre_wrong_8 : decode prog_19_method_2_code 8 = .ok (.aload_n 0, 1) := by decide +kernel
theorem d27_Tre_wrong_9 : decode prog_19_method_2_code 9 = .ok (.getfield 50, 3) := by decide +kernel
theorem d27_Tre_wrong_12 : decode prog_19_method_2_code 12 = .ok (.aload_n 0, 1) := by decide +kernel
theorem d27_Tre_wrong_13 : decode prog_19_method_2_code 13 = .ok (.getfield 12, 3) := by decide +kernel
theorem d27_Tre_wrong_16 : decode prog_19_method_2_code 16 = .ok (.getfield 58, 3) := by decide +kernel
theorem d27_Tre_wrong_19 : decode prog_19_method_2_code 19 = .ok (.aload_n 0, 1) := by decide +kernel
theorem d27_Tre_wrong_20 : decode prog_19_method_2_code 20 = .ok (.getfield 61, 3) := by decide +kernel
theorem d27_Tre_wrong_23 : decode prog_19_method_2_code 23 = .ok (.iaload, 1) := by decide +kernel
theorem d27_Tre_wrong_24 : decode prog_19_method_2_code 24 = .ok (.putfield 64, 3) := by decide +kernel
theorem d27_Tre_wrong_27 : decode prog_19_method_2_code 27 = .ok (.aload_n 0, 1) := by decide +kernel
theorem d27_Tre_wrong_28 : decode prog_19_method_2_code 28 = .ok (.getfield 50, 3) := by decide +kernel
theorem d27_Tre_wrong_31 : decode prog_19_method_2_code 31 = .ok (.areturn, 1) := by decide +kernel
theorem d27_Tre_needWord_0 : decode prog_19_method_10_code 0 = .ok (.aload_n 0, 1) := by decide +kernel
theorem d27_Tre_needWord_1 : decode prog_19_method_10_code 1 = .ok (.aload_n 1, 1) := by decide +kernel
theorem d27_Tre_needWord_2 : decode prog_19_method_10_code 2 = .ok (.invokevirtual 106, 3) := by decide +kernel
theorem d27_Tre_needWord_5 : decode prog_19_method_10_code 5 = .ok (.ifCond .ne 8, 3) := by decide +kernel
theorem d27_Tre_needWord_8 : decode prog_19_method_10_code 8 = .ok (.aload_n 0, 1) := by decide +kernel
theorem d27_Tre_needWord_9 : decode prog_19_method_10_code 9 = .ok (.invokevirtual 76, 3) := by decide +kernel
theorem d27_Tre_needWord_12 : decode prog_19_method_10_code 12 = .ok (.athrow, 1) := by decide +kernel
theorem d27_Tre_module_0 : decode prog_19_method_48_code 0 = .ok (.aload_n 0, 1) := by decide +kernel
theorem d27_Tre_module_1 : decode prog_19_method_48_code 1 = .ok (.getfield 61, 3) := by decide +kernel
theorem d27_Tre_module_4 : decode prog_19_method_48_code 4 = .ok (.istore_n 1, 1) := by decide +kernel
theorem d27_Tre_module_5 : decode prog_19_method_48_code 5 = .ok (.iconst (-1), 1) := by decide +kernel
theorem d27_Tre_module_6 : decode prog_19_method_48_code 6 = .ok (.istore_n 2, 1) := by decide +kernel
theorem d27_Tre_module_7 : decode prog_19_method_48_code 7 = .ok (.iconst (-1), 1) := by decide +kernel
theorem d27_Tre_module_8 : decode prog_19_method_48_code 8 = .ok (.istore_n 3, 1) := by decide +kernel
theorem d27_Tre_module_9 : decode prog_19_method_48_code 9 = .ok (.iconst (-1), 1) := by decide +kernel
theorem d27_Tre_module_10 : decode prog_19_method_48_code 10 = .ok (.istore 4, 2) := by decide +kernel
theorem d27_Tre_module_12 : decode prog_19_method_48_code 12 = .ok (.aload_n 0, 1) := by decide +kernel
theorem d27_Tre_module_13 : decode prog_19_method_48_code 13 = .ok (.ldc_w 299, 3) := by decide +kernel
theorem d27_Tre_module_16 : decode prog_19_method_48_code 16 = .ok (.invokevirtual 301, 3) := by decide +kernel
theorem d27_Tre_read_0 : decode prog_19_method_49_code 0 = .ok (.aload_n 0, 1) := by decide +kernel
theorem d27_Tre_read_1 : decode prog_19_method_49_code 1 = .ok (.getfield 12, 3) := by decide +kernel
theorem d27_Tre_read_4 : decode prog_19_method_49_code 4 = .ok (.aload_n 1, 1) := by decide +kernel
theorem d27_Tre_read_5 : decode prog_19_method_49_code 5 = .ok (.iload_n 2, 1) := by decide +kernel
theorem d27_Tre_read_6 : decode prog_19_method_49_code 6 = .ok (.invokevirtual 315, 3) := by decide +kernel
theorem d27_Tre_read_9 : decode prog_19_method_49_code 9 = .ok (.aload_n 0, 1) := by decide +kernel
theorem d27_Tre_read_10 : decode prog_19_method_49_code 10 = .ok (.iconst 0, 1) := by decide +kernel
theorem d27_Tre_read_11 : decode prog_19_method_49_code 11 = .ok (.putfield 61, 3) := by decide +kernel
theorem d27_Tre_read_14 : decode prog_19_method_49_code 14 = .ok (.aload_n 0, 1) := by decide +kernel
theorem d27_Tre_read_15 : decode prog_19_method_49_code 15 = .ok (.iconst 0, 1) := by decide +kernel
theorem d27_Tre_read_16 : decode prog_19_method_49_code 16 = .ok (.putfield 70, 3) := by decide +kernel
theorem d27_Tre_read_19 : decode prog_19_method_49_code 19 = .ok (.aload_n 0, 1) := by decide +kernel
theorem d27_Tre_read_20 : decode prog_19_method_49_code 20 = .ok (.iconst 0, 1) := by decide +kernel
theorem d27_Tre_read_21 : decode prog_19_method_49_code 21 = .ok (.putfield 118, 3) := by decide +kernel
theorem d27_Tre_read_24 : decode prog_19_method_49_code 24 = .ok (.aload_n 0, 1) := by decide +kernel
theorem d27_Tre_read_25 : decode prog_19_method_49_code 25 = .ok (.iconst (-1), 1) := by decide +kernel
theorem d27_Tre_read_26 : decode prog_19_method_49_code 26 = .ok (.putfield 318, 3) := by decide +kernel
theorem d27_Tre_read_29 : decode prog_19_method_49_code 29 = .ok (.iconst (-1), 1) := by decide +kernel
theorem d27_Tre_read_30 : decode prog_19_method_49_code 30 = .ok (.istore_n 3, 1) := by decide +kernel
theorem d27_Tre_read_31 : decode prog_19_method_49_code 31 = .ok (.aload_n 0, 1) := by decide +kernel
theorem d27_Tre_read_32 : decode prog_19_method_49_code 32 = .ok (.invokevirtual 321, 3) := by decide +kernel
theorem d27_Mod_build_0 : decode prog_15_method_6_code 0 = .ok (.aload_n 0, 1) := by decide +kernel
theorem d27_Mod_build_1 : decode prog_15_method_6_code 1 = .ok (.iconst 0, 1) := by decide +kernel
theorem d27_Mod_build_2 : decode prog_15_method_6_code 2 = .ok (.putfield 44, 3) := by decide +kernel
theorem d27_Mod_build_5 : decode prog_15_method_6_code 5 = .ok (.aload_n 0, 1) := by decide +kernel
theorem d27_Mod_build_6 : decode prog_15_method_6_code 6 = .ok (.getfield 47, 3) := by decide +kernel
theorem d27_Mod_build_9 : decode prog_15_method_6_code 9 = .ok (.istore_n 1, 1) := by decide +kernel
theorem d27_Mod_build_10 : decode prog_15_method_6_code 10 = .ok (.aload_n 0, 1) := by decide +kernel
theorem d27_Mod_build_11 : decode prog_15_method_6_code 11 = .ok (.iconst 0, 1) := by decide +kernel
theorem d27_Mod_build_12 : decode prog_15_method_6_code 12 = .ok (.putfield 47, 3) := by decide +kernel
theorem d27_Mod_build_15 : decode prog_15_method_6_code 15 = .ok (.aload_n 0, 1) := by decide +kernel
theorem d27_Mod_build_16 : decode prog_15_method_6_code 16 = .ok (.getfield 31, 3) := by decide +kernel
theorem d27_Mod_build_19 : decode prog_15_method_6_code 19 = .ok (.aload_n 0, 1) := by decide +kernel
theorem d27_Mod_build_20 : decode prog_15_method_6_code 20 = .ok (.getfield 8, 3) := by decide +kernel
theorem d27_Mod_build_23 : decode prog_15_method_6_code 23 = .ok (.iload_n 1, 1) := by decide +kernel
theorem d27_Mod_build_24 : decode prog_15_method_6_code 24 = .ok (.invokevirtual 50, 3) := by decide +kernel
theorem d27_Mod_build_41 : decode prog_15_method_6_code 41 = .ok (.astore_n 2, 1) := by decide +kernel
theorem d27_Mod_build_42 : decode prog_15_method_6_code 42 = .ok (.aload_n 0, 1) := by decide +kernel
theorem d27_Mod_build_43 : decode prog_15_method_6_code 43 = .ok (.aload_n 2, 1) := by decide +kernel
theorem d27_Mod_build_44 : decode prog_15_method_6_code 44 = .ok (.getfield 60, 3) := by decide +kernel
theorem d27_Mod_build_47 : decode prog_15_method_6_code 47 = .ok (.putfield 63, 3) := by decide +kernel
theorem d27_Mod_build_50 : decode prog_15_method_6_code 50 = .ok (.aload_n 0, 1) := by decide +kernel
theorem d27_Mod_build_51 : decode prog_15_method_6_code 51 = .ok (.aload_n 2, 1) := by decide +kernel
theorem d27_Mod_build_52 : decode prog_15_method_6_code 52 = .ok (.getfield 66, 3) := by decide +kernel
theorem d27_Mod_build_55 : decode prog_15_method_6_code 55 = .ok (.putfield 14, 3) := by decide +kernel
theorem d27_Mod_build_58 : decode prog_15_method_6_code 58 = .ok (.aload_n 0, 1) := by decide +kernel
theorem d27_Mod_build_59 : decode prog_15_method_6_code 59 = .ok (.iconst 1, 1) := by decide +kernel
theorem d27_Mod_build_60 : decode prog_15_method_6_code 60 = .ok (.putfield 44, 3) := by decide +kernel
theorem d27_Mod_build_63 : decode prog_15_method_6_code 63 = .ok (.iconst 0, 1) := by decide +kernel
theorem d27_Mod_build_64 : decode prog_15_method_6_code 64 = .ok (.ireturn, 1) := by decide +kernel
/-- what is known of an object of the world -/
theorem q_recv {D : va_G} {cl : List vw_C} {A : Nat → Prop} {s : State} {ws : va_W} {tys : q_ty} {H : Heap} {locs : List Loc} {a q0 ci : Nat} {q : vw_C} {fs : List Value} (I : q_I D cl A s ws tys H locs) (hc : cl[ci]? = some q) (he : ws[q0]? = some (a, .inr (ci, fs))) : ∃ cell : Cell, H[a]? = some cell ∧ cell.vm = .none ∧ s.vm.findClass q.1 = some cell.cls := by
  obtain ⟨q', h1, cell, g1, g2, g3, -⟩ := I.1 q0 _ he
  exact ⟨cell, g1, g3, by rw [g2]; exact (I.2.2.1.1 ci q hc).2.1⟩
theorem q_tab1 {L : List ExceptionTableEntry} {a b c d : Nat} (h : L.map (fun h => (h.startPc, h.endPc, h.handlerPc, h.catchType)) = [(a, b, c, d)]) : L = [] ++ ({ startPc := a, endPc := b, handlerPc := c, catchType := d } : ExceptionTableEntry) :: [] := by
  match L, h with
  | [x], h =>
    obtain ⟨x1, x2, x3, x4⟩ := x
    cases h
    rfl
theorem q_tab2 {L : List ExceptionTableEntry} {a b c d a2 b2 c2 d2 : Nat} (h : L.map (fun h => (h.startPc, h.endPc, h.handlerPc, h.catchType)) = [(a, b, c, d), (a2, b2, c2, d2)]) : L = ({ startPc := a, endPc := b, handlerPc := c, catchType := d } : ExceptionTableEntry) :: ({ startPc := a2, endPc := b2, handlerPc := c2, catchType := d2 } : ExceptionTableEntry) :: [] := by
  match L, h with
  | [x, y], h =>
    obtain ⟨x1, x2, x3, x4⟩ := x
    obtain ⟨y1, y2, y3, y4⟩ := y
    cases h
    rfl
set_option maxHeartbeats 4000000 in
set_option maxRecDepth 100000 in
/-- skip(): nothing is there -/
theorem c_Cut_skip (l : Launch) (D : va_G) (t_cut : Nat) (k_text : Nat) (k_kind : Nat) (k_from : Nat) (k_to : Nat) (k_width : Nat) (k_ones : Nat) (k_unknown : Nat) (k_signed : Nat) : q_Met l ⟨"SignalTheatreModel$Cut", "skip", "()V"⟩ (Cond.code ⟨"SignalTheatreModel$Cut", "skip", "()V"⟩ prog_18_method_6_code 2 none) { frames := 0, cells := 0, slots := 0, locals := 0 } D q_cl [.ref t_cut] [(t_cut, .inr (15, [.ref k_text, .int 0, .int 0, .int 0, .ref k_kind, .ref k_from, .ref k_to, .ref k_width, .ref k_ones, .ref k_unknown, .ref k_signed, .int 0, .long 0, .long 0, .long 0, .int 0, .int 0]))] [] (fun r w ty => r = .inl none ∧ w = [(t_cut, .inr (15, [.ref k_text, .int 0, .int 0, .int 0, .ref k_kind, .ref k_from, .ref k_to, .ref k_width, .ref k_ones, .ref k_unknown, .ref k_signed, .int 0, .long 0, .long 0, .long 0, .int 0, .int 0]))] ∧ ty = []) := by
  refine q_ofW (by decide) ?_
  intro p e s m below meth c C hr hin hex I
  have hx := C.1
  have hb := C.2.1
  have hl := lv_entry ([.ref t_cut]) (n := 2) (Nat.le_of_ble_eq_true rfl)
  rw [lg_entry_eq]
  generalize (lg_sl ([.ref t_cut]) ++ List.replicate (2 - (lg_sl ([.ref t_cut])).length) Slot.unset).toArray = ls at hl ⊢
  have hl : lv_has ls 2 [(0, .ref t_cut)] := hl
  refine lv_aload_n hx hb d27_Cut_skip_0 rfl (lv_at hl 0 rfl) ?_
  refine q_get C I 0 3 rfl rfl i_Cut (by decide) m27_0 rfl d27_Cut_skip_1 ?_
  refine lv_aload_n hx hb d27_Cut_skip_4 rfl (lv_at hl 0 rfl) ?_
  refine q_get C I 0 1 rfl rfl i_Cut (by decide) m27_1 rfl d27_Cut_skip_5 ?_
  refine lv_icmp_ge (tgt := 219) hx hb d27_Cut_skip_8 (by decide) (fun _ => ?_) (fun h => absurd h (by decide))
  exact q_vret C hr I ⟨rfl, rfl, rfl⟩ (Nat.le_of_ble_eq_true rfl) (Nat.le_of_ble_eq_true rfl) d27_Cut_skip_219
set_option maxHeartbeats 4000000 in
set_option maxRecDepth 100000 in
/-- look(0): the end -/
theorem c_Cut_look (l : Launch) (D : va_G) (t_cut : Nat) (k_text : Nat) (k_kind : Nat) (k_from : Nat) (k_to : Nat) (k_width : Nat) (k_ones : Nat) (k_unknown : Nat) (k_signed : Nat) : q_Met l ⟨"SignalTheatreModel$Cut", "look", "(I)I"⟩ (Cond.code ⟨"SignalTheatreModel$Cut", "look", "(I)I"⟩ prog_18_method_2_code 2 (some .int)) { frames := 0, cells := 0, slots := 0, locals := 0 } D q_cl [.ref t_cut, .int 0] [(t_cut, .inr (15, [.ref k_text, .int 0, .int 0, .int 0, .ref k_kind, .ref k_from, .ref k_to, .ref k_width, .ref k_ones, .ref k_unknown, .ref k_signed, .int 0, .long 0, .long 0, .long 0, .int 0, .int 0]))] [] (fun r w ty => r = .inl (some (.int (-1))) ∧ w = [(t_cut, .inr (15, [.ref k_text, .int 0, .int 0, .int 0, .ref k_kind, .ref k_from, .ref k_to, .ref k_width, .ref k_ones, .ref k_unknown, .ref k_signed, .int 0, .long 0, .long 0, .long 0, .int 0, .int 0]))] ∧ ty = []) := by
  refine q_ofW (by decide) ?_
  intro p e s m below meth c C hr hin hex I
  have hx := C.1
  have hb := C.2.1
  have hl := lv_entry ([.ref t_cut, .int 0]) (n := 2) (Nat.le_of_ble_eq_true rfl)
  rw [lg_entry_eq]
  generalize (lg_sl ([.ref t_cut, .int 0]) ++ List.replicate (2 - (lg_sl ([.ref t_cut, .int 0])).length) Slot.unset).toArray = ls at hl ⊢
  have hl : lv_has ls 2 [(0, .ref t_cut), (1, .int 0)] := hl
  refine lv_aload_n hx hb d27_Cut_look_0 rfl (lv_at hl 0 rfl) ?_
  refine q_get C I 0 3 rfl rfl i_Cut (by decide) m27_0 rfl d27_Cut_look_1 ?_
  refine lv_iload_n hx hb d27_Cut_look_4 rfl (lv_at hl 1 rfl) ?_
  refine lv_iadd hx hb d27_Cut_look_5 ?_
  refine W.eq (g2 := F0 m 6 ls [.int 0]) rfl ?_
  refine lv_aload_n hx hb d27_Cut_look_6 rfl (lv_at hl 0 rfl) ?_
  refine q_get C I 0 1 rfl rfl i_Cut (by decide) m27_1 rfl d27_Cut_look_7 ?_
  refine lv_icmp_ge (tgt := 31) hx hb d27_Cut_look_10 (by decide) (fun _ => ?_) (fun h => absurd h (by decide))
  refine lv_iconst (v := -1) hx hb d27_Cut_look_31 (by decide) ?_
  exact q_iret C hr I ⟨rfl, rfl, rfl⟩ (Nat.le_of_ble_eq_true rfl) (Nat.le_of_ble_eq_true rfl) d27_Cut_look_32
set_option maxHeartbeats 4000000 in
set_option maxRecDepth 100000 in
/-- put(END, 0) -/
theorem c_Cut_put (l : Launch) (D : va_G) (t_cut : Nat) (k_text : Nat) (k_kind : Nat) (k_from : Nat) (k_to : Nat) (k_width : Nat) (k_ones : Nat) (k_unknown : Nat) (k_signed : Nat) (cA_kind : ClassId) (g_kind : Nat → Int32) (cA_from : ClassId) (g_from : Nat → Int32) (cA_to : ClassId) (g_to : Nat → Int32) : q_Met l ⟨"SignalTheatreModel$Cut", "put", "(II)V"⟩ (Cond.code ⟨"SignalTheatreModel$Cut", "put", "(II)V"⟩ prog_18_method_5_code 3 none) { frames := 0, cells := 0, slots := 0, locals := 0 } D q_cl [.ref t_cut, .int 0, .int 0] [(t_cut, .inr (15, [.ref k_text, .int 0, .int 0, .int 0, .ref k_kind, .ref k_from, .ref k_to, .ref k_width, .ref k_ones, .ref k_unknown, .ref k_signed, .int 0, .long 0, .long 0, .long 0, .int 0, .int 0])), (k_kind, .inl (cA_kind, 32800, .inl g_kind)), (k_from, .inl (cA_from, 32800, .inl g_from)), (k_to, .inl (cA_to, 32800, .inl g_to))] [(cA_kind, .int), (cA_from, .int), (cA_to, .int)] (fun r w ty => r = .inl none ∧ w = [(t_cut, .inr (15, [.ref k_text, .int 0, .int 1, .int 0, .ref k_kind, .ref k_from, .ref k_to, .ref k_width, .ref k_ones, .ref k_unknown, .ref k_signed, .int 0, .long 0, .long 0, .long 0, .int 0, .int 0])), (k_kind, .inl (cA_kind, 32800, .inl (upd g_kind 0 0))), (k_from, .inl (cA_from, 32800, .inl (upd g_from 0 0))), (k_to, .inl (cA_to, 32800, .inl (upd g_to 0 0)))] ∧ ty = [(cA_kind, .int), (cA_from, .int), (cA_to, .int)]) := by
  refine q_ofW (by decide) ?_
  intro p e s m below meth c C hr hin hex I
  have hx := C.1
  have hb := C.2.1
  have hl := lv_entry ([.ref t_cut, .int 0, .int 0]) (n := 3) (Nat.le_of_ble_eq_true rfl)
  rw [lg_entry_eq]
  generalize (lg_sl ([.ref t_cut, .int 0, .int 0]) ++ List.replicate (3 - (lg_sl ([.ref t_cut, .int 0, .int 0])).length) Slot.unset).toArray = ls at hl ⊢
  have hl : lv_has ls 3 [(0, .ref t_cut), (1, .int 0), (2, .int 0)] := hl
  refine lv_aload_n hx hb d27_Cut_put_0 rfl (lv_at hl 0 rfl) ?_
  refine q_get C I 0 4 rfl rfl i_Cut (by decide) m27_2 rfl d27_Cut_put_1 ?_
  refine lv_aload_n hx hb d27_Cut_put_4 rfl (lv_at hl 0 rfl) ?_
  refine q_get C I 0 2 rfl rfl i_Cut (by decide) m27_3 rfl d27_Cut_put_5 ?_
  refine lv_iload_n hx hb d27_Cut_put_8 rfl (lv_at hl 1 rfl) ?_
  refine q_iast C I 1 0 rfl rfl (by unfold vp_in; decide) d27_Cut_put_9 (fun H locs I => ?_)
  have I : q_I D q_cl _ s [(t_cut, .inr (15, [.ref k_text, .int 0, .int 0, .int 0, .ref k_kind, .ref k_from, .ref k_to, .ref k_width, .ref k_ones, .ref k_unknown, .ref k_signed, .int 0, .long 0, .long 0, .long 0, .int 0, .int 0])), (k_kind, .inl (cA_kind, 32800, .inl (upd g_kind 0 0))), (k_from, .inl (cA_from, 32800, .inl g_from)), (k_to, .inl (cA_to, 32800, .inl g_to))] [(cA_kind, .int), (cA_from, .int), (cA_to, .int)] H _ := I
  refine lv_aload_n hx hb d27_Cut_put_10 rfl (lv_at hl 0 rfl) ?_
  refine q_get C I 0 5 rfl rfl i_Cut (by decide) m27_4 rfl d27_Cut_put_11 ?_
  refine lv_aload_n hx hb d27_Cut_put_14 rfl (lv_at hl 0 rfl) ?_
  refine q_get C I 0 2 rfl rfl i_Cut (by decide) m27_3 rfl d27_Cut_put_15 ?_
  refine lv_iload_n hx hb d27_Cut_put_18 rfl (lv_at hl 2 rfl) ?_
  refine q_iast C I 2 1 rfl rfl (by unfold vp_in; decide) d27_Cut_put_19 (fun H locs I => ?_)
  have I : q_I D q_cl _ s [(t_cut, .inr (15, [.ref k_text, .int 0, .int 0, .int 0, .ref k_kind, .ref k_from, .ref k_to, .ref k_width, .ref k_ones, .ref k_unknown, .ref k_signed, .int 0, .long 0, .long 0, .long 0, .int 0, .int 0])), (k_kind, .inl (cA_kind, 32800, .inl (upd g_kind 0 0))), (k_from, .inl (cA_from, 32800, .inl (upd g_from 0 0))), (k_to, .inl (cA_to, 32800, .inl g_to))] [(cA_kind, .int), (cA_from, .int), (cA_to, .int)] H _ := I
  refine lv_aload_n hx hb d27_Cut_put_20 rfl (lv_at hl 0 rfl) ?_
  refine q_get C I 0 6 rfl rfl i_Cut (by decide) m27_5 rfl d27_Cut_put_21 ?_
  refine lv_aload_n hx hb d27_Cut_put_24 rfl (lv_at hl 0 rfl) ?_
  refine q_get C I 0 2 rfl rfl i_Cut (by decide) m27_3 rfl d27_Cut_put_25 ?_
  refine lv_aload_n hx hb d27_Cut_put_28 rfl (lv_at hl 0 rfl) ?_
  refine q_get C I 0 3 rfl rfl i_Cut (by decide) m27_0 rfl d27_Cut_put_29 ?_
  refine q_iast C I 3 2 rfl rfl (by unfold vp_in; decide) d27_Cut_put_32 (fun H locs I => ?_)
  have I : q_I D q_cl _ s [(t_cut, .inr (15, [.ref k_text, .int 0, .int 0, .int 0, .ref k_kind, .ref k_from, .ref k_to, .ref k_width, .ref k_ones, .ref k_unknown, .ref k_signed, .int 0, .long 0, .long 0, .long 0, .int 0, .int 0])), (k_kind, .inl (cA_kind, 32800, .inl (upd g_kind 0 0))), (k_from, .inl (cA_from, 32800, .inl (upd g_from 0 0))), (k_to, .inl (cA_to, 32800, .inl (upd g_to 0 0)))] [(cA_kind, .int), (cA_from, .int), (cA_to, .int)] H _ := I
  refine lv_aload_n hx hb d27_Cut_put_33 rfl (lv_at hl 0 rfl) ?_
  refine lv_dup hx hb d27_Cut_put_34 rfl ?_
  refine q_get C I 0 2 rfl rfl i_Cut (by decide) m27_3 rfl d27_Cut_put_35 ?_
  refine lv_iconst (v := 1) hx hb d27_Cut_put_38 (by decide) ?_
  refine lv_iadd hx hb d27_Cut_put_39 ?_
  refine W.eq (g2 := F0 m 40 ls [.int 1, .ref t_cut]) rfl ?_
  refine q_put t_Cut t_Cut_ok n_Cut C I 0 2 rfl rfl i_Cut (by decide) m27_3 rfl rfl rfl (Nat.le_of_ble_eq_true rfl) d27_Cut_put_40 (fun H locs I => ?_)
  have I : q_I D q_cl _ s [(t_cut, .inr (15, [.ref k_text, .int 0, .int 1, .int 0, .ref k_kind, .ref k_from, .ref k_to, .ref k_width, .ref k_ones, .ref k_unknown, .ref k_signed, .int 0, .long 0, .long 0, .long 0, .int 0, .int 0])), (k_kind, .inl (cA_kind, 32800, .inl (upd g_kind 0 0))), (k_from, .inl (cA_from, 32800, .inl (upd g_from 0 0))), (k_to, .inl (cA_to, 32800, .inl (upd g_to 0 0)))] [(cA_kind, .int), (cA_from, .int), (cA_to, .int)] H _ := I
  exact q_vret C hr I ⟨rfl, rfl, rfl⟩ (Nat.le_of_ble_eq_true rfl) (Nat.le_of_ble_eq_true rfl) d27_Cut_put_43
set_option maxHeartbeats 4000000 in
set_option maxRecDepth 100000 in
/-- one(): the END -/
theorem c_Cut_one (l : Launch) (D : va_G) (t_cut : Nat) (k_text : Nat) (k_kind : Nat) (k_from : Nat) (k_to : Nat) (k_width : Nat) (k_ones : Nat) (k_unknown : Nat) (k_signed : Nat) (cA_kind : ClassId) (g_kind : Nat → Int32) (cA_from : ClassId) (g_from : Nat → Int32) (cA_to : ClassId) (g_to : Nat → Int32) : q_Met l ⟨"SignalTheatreModel$Cut", "one", "()V"⟩ (Cond.code ⟨"SignalTheatreModel$Cut", "one", "()V"⟩ prog_18_method_9_code 4 none) { frames := 1, cells := 0, slots := 0, locals := 14 } D q_cl [.ref t_cut] [(t_cut, .inr (15, [.ref k_text, .int 0, .int 0, .int 0, .ref k_kind, .ref k_from, .ref k_to, .ref k_width, .ref k_ones, .ref k_unknown, .ref k_signed, .int 0, .long 0, .long 0, .long 0, .int 0, .int 0])), (k_kind, .inl (cA_kind, 32800, .inl g_kind)), (k_from, .inl (cA_from, 32800, .inl g_from)), (k_to, .inl (cA_to, 32800, .inl g_to))] [(cA_kind, .int), (cA_from, .int), (cA_to, .int)] (fun r w ty => r = .inl none ∧ w = [(t_cut, .inr (15, [.ref k_text, .int 0, .int 1, .int 0, .ref k_kind, .ref k_from, .ref k_to, .ref k_width, .ref k_ones, .ref k_unknown, .ref k_signed, .int 0, .long 0, .long 0, .long 0, .int 0, .int 0])), (k_kind, .inl (cA_kind, 32800, .inl (upd g_kind 0 0))), (k_from, .inl (cA_from, 32800, .inl (upd g_from 0 0))), (k_to, .inl (cA_to, 32800, .inl (upd g_to 0 0)))] ∧ ty = [(cA_kind, .int), (cA_from, .int), (cA_to, .int)]) := by
  refine q_ofW (by decide) ?_
  intro p e s m below meth c C hr hin hex I
  have hx := C.1
  have hb := C.2.1
  have hl := lv_entry ([.ref t_cut]) (n := 4) (Nat.le_of_ble_eq_true rfl)
  rw [lg_entry_eq]
  generalize (lg_sl ([.ref t_cut]) ++ List.replicate (4 - (lg_sl ([.ref t_cut])).length) Slot.unset).toArray = ls at hl ⊢
  have hl : lv_has ls 4 [(0, .ref t_cut)] := hl
  refine lv_aload_n hx hb d27_Cut_one_0 rfl (lv_at hl 0 rfl) ?_
  refine lv_iconst (v := 0) hx hb d27_Cut_one_1 (by decide) ?_
  refine q_go (wr := [(k_kind, .inl (cA_kind, 32800, .inl g_kind)), (k_from, .inl (cA_from, 32800, .inl g_from)), (k_to, .inl (cA_to, 32800, .inl g_to))]) (tyr := [(cA_kind, .int), (cA_from, .int), (cA_to, .int)]) C I (q_siteV (As := [.int 0]) (rest := []) (q0 := 0) C I rfl rfl m27_6 m27_8 m27_9 m27_7 ⟨by decide, by decide⟩ (Eq.trans (b := some 1) (by decide +kernel) rfl) rfl d27_Cut_one_2) (c_Cut_look l D t_cut k_text k_kind k_from k_to k_width k_ones k_unknown k_signed) m27_7 m27_10 [0] [1, 2, 3] [] [0, 1, 2] rfl rfl (by decide) (by decide) (by decide) rfl rfl hl.1 d27_Cut_one_2 (Nat.le_of_ble_eq_true rfl) (Nat.le_of_ble_eq_true rfl) (Nat.le_of_ble_eq_true rfl) (Nat.le_of_ble_eq_true rfl) (fun v w ty H locs hp I => ?_) (fun E w ty H locs q ce hp _ _ _ _ => ?_)
  rotate_left
  · obtain ⟨hv, -⟩ := hp; cases hv
  obtain ⟨hv, rfl, rfl⟩ := hp
  cases hv
  have I : q_I D q_cl _ s [(k_kind, .inl (cA_kind, 32800, .inl g_kind)), (k_from, .inl (cA_from, 32800, .inl g_from)), (k_to, .inl (cA_to, 32800, .inl g_to)), (t_cut, .inr (15, [.ref k_text, .int 0, .int 0, .int 0, .ref k_kind, .ref k_from, .ref k_to, .ref k_width, .ref k_ones, .ref k_unknown, .ref k_signed, .int 0, .long 0, .long 0, .long 0, .int 0, .int 0]))] [(cA_kind, .int), (cA_from, .int), (cA_to, .int)] H _ := I
  refine W.eq (g2 := F0 m 5 ls [.int (-1)]) rfl ?_
  refine lv_istore_n (lv' := [(1, .int (-1)), (0, .ref t_cut)]) hx hb d27_Cut_one_5 rfl hl (by decide) rfl (fun ls hl => ?_)
  refine lv_aload_n hx hb d27_Cut_one_6 rfl (lv_at hl 1 rfl) ?_
  refine q_get C I 3 3 rfl rfl i_Cut (by decide) m27_0 rfl d27_Cut_one_7 ?_
  refine lv_istore_n (lv' := [(2, .int 0), (1, .int (-1)), (0, .ref t_cut)]) hx hb d27_Cut_one_10 rfl hl (by decide) rfl (fun ls hl => ?_)
  refine lv_iload_n hx hb d27_Cut_one_11 rfl (lv_at hl 1 rfl) ?_
  refine lv_if_ge (tgt := 27) hx hb d27_Cut_one_12 (by decide) (fun h => absurd h (by decide)) (fun _ => ?_)
  refine lv_aload_n hx hb d27_Cut_one_15 rfl (lv_at hl 2 rfl) ?_
  refine lv_iconst (v := 0) hx hb d27_Cut_one_16 (by decide) ?_
  refine lv_aload_n hx hb d27_Cut_one_17 rfl (lv_at hl 2 rfl) ?_
  refine q_get C I 3 3 rfl rfl i_Cut (by decide) m27_0 rfl d27_Cut_one_18 ?_
  refine q_go (wr := []) (tyr := []) C I (q_siteV (As := [.int 0, .int 0]) (rest := []) (q0 := 3) C I rfl rfl m27_11 m27_13 m27_14 m27_12 ⟨by decide, by decide⟩ (Eq.trans (b := some 2) (by decide +kernel) rfl) rfl d27_Cut_one_21) (c_Cut_put l D t_cut k_text k_kind k_from k_to k_width k_ones k_unknown k_signed cA_kind g_kind cA_from g_from cA_to g_to) m27_12 m27_10 [3, 0, 1, 2] [] [0, 1, 2] [] rfl rfl (by decide) (by decide) (by decide) rfl rfl hl.1 d27_Cut_one_21 (Nat.le_of_ble_eq_true rfl) (Nat.le_of_ble_eq_true rfl) (Nat.le_of_ble_eq_true rfl) (Nat.le_of_ble_eq_true rfl) (fun v w ty H locs hp I => ?_) (fun E w ty H locs q ce hp _ _ _ _ => ?_)
  rotate_left
  · obtain ⟨hv, -⟩ := hp; cases hv
  obtain ⟨hv, rfl, rfl⟩ := hp
  cases hv
  have I : q_I D q_cl _ s [(t_cut, .inr (15, [.ref k_text, .int 0, .int 1, .int 0, .ref k_kind, .ref k_from, .ref k_to, .ref k_width, .ref k_ones, .ref k_unknown, .ref k_signed, .int 0, .long 0, .long 0, .long 0, .int 0, .int 0])), (k_kind, .inl (cA_kind, 32800, .inl (upd g_kind 0 0))), (k_from, .inl (cA_from, 32800, .inl (upd g_from 0 0))), (k_to, .inl (cA_to, 32800, .inl (upd g_to 0 0)))] [(cA_kind, .int), (cA_from, .int), (cA_to, .int)] H _ := I
  refine W.eq (g2 := F0 m 24 ls []) rfl ?_
  refine lv_goto (tgt := 209) hx hb d27_Cut_one_24 (by decide) ?_
  exact q_vret C hr I ⟨rfl, rfl, rfl⟩ (Nat.le_of_ble_eq_true rfl) (Nat.le_of_ble_eq_true rfl) d27_Cut_one_209
set_option maxHeartbeats 4000000 in
set_option maxRecDepth 100000 in
/-- cut(row, 0) -/
theorem c_Cut_cut (l : Launch) (D : va_G) (t_cut : Nat) (bb : Nat) (k_text : Nat) (k_kind : Nat) (k_from : Nat) (k_to : Nat) (k_width : Nat) (k_ones : Nat) (k_unknown : Nat) (k_signed : Nat) (cA_kind : ClassId) (g_kind : Nat → Int32) (cA_from : ClassId) (g_from : Nat → Int32) (cA_to : ClassId) (g_to : Nat → Int32) : q_Met l ⟨"SignalTheatreModel$Cut", "cut", "([BI)V"⟩ (Cond.code ⟨"SignalTheatreModel$Cut", "cut", "([BI)V"⟩ prog_18_method_7_code 4 none) { frames := 2, cells := 0, slots := 0, locals := 29 } D q_cl [.ref t_cut, .ref bb, .int 0] [(t_cut, .inr (15, [.ref k_text, .int 0, .int 0, .int 0, .ref k_kind, .ref k_from, .ref k_to, .ref k_width, .ref k_ones, .ref k_unknown, .ref k_signed, .int 0, .long 0, .long 0, .long 0, .int 0, .int 0])), (k_kind, .inl (cA_kind, 32800, .inl g_kind)), (k_from, .inl (cA_from, 32800, .inl g_from)), (k_to, .inl (cA_to, 32800, .inl g_to))] [(cA_kind, .int), (cA_from, .int), (cA_to, .int)] (fun r w ty => r = .inl none ∧ w = [(t_cut, .inr (15, [.ref k_text, .int 0, .int 1, .int 0, .ref k_kind, .ref k_from, .ref k_to, .ref k_width, .ref k_ones, .ref k_unknown, .ref k_signed, .int 0, .long 0, .long 0, .long 0, .int 0, .int 0])), (k_kind, .inl (cA_kind, 32800, .inl (upd g_kind 0 0))), (k_from, .inl (cA_from, 32800, .inl (upd g_from 0 0))), (k_to, .inl (cA_to, 32800, .inl (upd g_to 0 0)))] ∧ ty = [(cA_kind, .int), (cA_from, .int), (cA_to, .int)]) := by
  refine q_ofW (by decide) ?_
  intro p e s m below meth c C hr hin hex I
  have hx := C.1
  have hb := C.2.1
  have hl := lv_entry ([.ref t_cut, .ref bb, .int 0]) (n := 4) (Nat.le_of_ble_eq_true rfl)
  rw [lg_entry_eq]
  generalize (lg_sl ([.ref t_cut, .ref bb, .int 0]) ++ List.replicate (4 - (lg_sl ([.ref t_cut, .ref bb, .int 0])).length) Slot.unset).toArray = ls at hl ⊢
  have hl : lv_has ls 4 [(0, .ref t_cut), (1, .ref bb), (2, .int 0)] := hl
  refine lv_iconst (v := 0) hx hb d27_Cut_cut_0 (by decide) ?_
  refine lv_istore_n (lv' := [(3, .int 0), (0, .ref t_cut), (1, .ref bb), (2, .int 0)]) hx hb d27_Cut_cut_1 rfl hl (by decide) rfl (fun ls hl => ?_)
  refine lv_iload_n hx hb d27_Cut_cut_2 rfl (lv_at hl 0 rfl) ?_
  refine lv_iload_n hx hb d27_Cut_cut_3 rfl (lv_at hl 3 rfl) ?_
  refine lv_icmp_ge (tgt := 22) hx hb d27_Cut_cut_4 (by decide) (fun _ => ?_) (fun h => absurd h (by decide))
  refine lv_aload_n hx hb d27_Cut_cut_22 rfl (lv_at hl 1 rfl) ?_
  refine lv_iload_n hx hb d27_Cut_cut_23 rfl (lv_at hl 3 rfl) ?_
  refine q_put t_Cut t_Cut_ok n_Cut C I 0 1 rfl rfl i_Cut (by decide) m27_1 rfl rfl rfl (Nat.le_of_ble_eq_true rfl) d27_Cut_cut_24 (fun H locs I => ?_)
  have I : q_I D q_cl _ s [(t_cut, .inr (15, [.ref k_text, .int 0, .int 0, .int 0, .ref k_kind, .ref k_from, .ref k_to, .ref k_width, .ref k_ones, .ref k_unknown, .ref k_signed, .int 0, .long 0, .long 0, .long 0, .int 0, .int 0])), (k_kind, .inl (cA_kind, 32800, .inl g_kind)), (k_from, .inl (cA_from, 32800, .inl g_from)), (k_to, .inl (cA_to, 32800, .inl g_to))] [(cA_kind, .int), (cA_from, .int), (cA_to, .int)] H _ := I
  refine lv_aload_n hx hb d27_Cut_cut_27 rfl (lv_at hl 1 rfl) ?_
  refine lv_iconst (v := 0) hx hb d27_Cut_cut_28 (by decide) ?_
  refine q_put t_Cut t_Cut_ok n_Cut C I 0 3 rfl rfl i_Cut (by decide) m27_0 rfl rfl rfl (Nat.le_of_ble_eq_true rfl) d27_Cut_cut_29 (fun H locs I => ?_)
  have I : q_I D q_cl _ s [(t_cut, .inr (15, [.ref k_text, .int 0, .int 0, .int 0, .ref k_kind, .ref k_from, .ref k_to, .ref k_width, .ref k_ones, .ref k_unknown, .ref k_signed, .int 0, .long 0, .long 0, .long 0, .int 0, .int 0])), (k_kind, .inl (cA_kind, 32800, .inl g_kind)), (k_from, .inl (cA_from, 32800, .inl g_from)), (k_to, .inl (cA_to, 32800, .inl g_to))] [(cA_kind, .int), (cA_from, .int), (cA_to, .int)] H _ := I
  refine lv_aload_n hx hb d27_Cut_cut_32 rfl (lv_at hl 1 rfl) ?_
  refine lv_iconst (v := 0) hx hb d27_Cut_cut_33 (by decide) ?_
  refine q_put t_Cut t_Cut_ok n_Cut C I 0 2 rfl rfl i_Cut (by decide) m27_3 rfl rfl rfl (Nat.le_of_ble_eq_true rfl) d27_Cut_cut_34 (fun H locs I => ?_)
  have I : q_I D q_cl _ s [(t_cut, .inr (15, [.ref k_text, .int 0, .int 0, .int 0, .ref k_kind, .ref k_from, .ref k_to, .ref k_width, .ref k_ones, .ref k_unknown, .ref k_signed, .int 0, .long 0, .long 0, .long 0, .int 0, .int 0])), (k_kind, .inl (cA_kind, 32800, .inl g_kind)), (k_from, .inl (cA_from, 32800, .inl g_from)), (k_to, .inl (cA_to, 32800, .inl g_to))] [(cA_kind, .int), (cA_from, .int), (cA_to, .int)] H _ := I
  refine lv_aload_n hx hb d27_Cut_cut_37 rfl (lv_at hl 1 rfl) ?_
  refine lv_iconst (v := 0) hx hb d27_Cut_cut_38 (by decide) ?_
  refine q_put t_Cut t_Cut_ok n_Cut C I 0 11 rfl rfl i_Cut (by decide) m27_15 rfl rfl rfl (Nat.le_of_ble_eq_true rfl) d27_Cut_cut_39 (fun H locs I => ?_)
  have I : q_I D q_cl _ s [(t_cut, .inr (15, [.ref k_text, .int 0, .int 0, .int 0, .ref k_kind, .ref k_from, .ref k_to, .ref k_width, .ref k_ones, .ref k_unknown, .ref k_signed, .int 0, .long 0, .long 0, .long 0, .int 0, .int 0])), (k_kind, .inl (cA_kind, 32800, .inl g_kind)), (k_from, .inl (cA_from, 32800, .inl g_from)), (k_to, .inl (cA_to, 32800, .inl g_to))] [(cA_kind, .int), (cA_from, .int), (cA_to, .int)] H _ := I
  refine lv_aload_n hx hb d27_Cut_cut_42 rfl (lv_at hl 1 rfl) ?_
  refine q_go (wr := [(k_kind, .inl (cA_kind, 32800, .inl g_kind)), (k_from, .inl (cA_from, 32800, .inl g_from)), (k_to, .inl (cA_to, 32800, .inl g_to))]) (tyr := [(cA_kind, .int), (cA_from, .int), (cA_to, .int)]) C I (q_siteV (As := []) (rest := []) (q0 := 0) C I rfl rfl m27_16 m27_18 m27_19 m27_17 ⟨by decide, by decide⟩ (Eq.trans (b := some 0) (by decide +kernel) rfl) rfl d27_Cut_cut_43) (c_Cut_skip l D t_cut k_text k_kind k_from k_to k_width k_ones k_unknown k_signed) m27_17 m27_10 [0] [1, 2, 3] [] [0, 1, 2] rfl rfl (by decide) (by decide) (by decide) rfl rfl hl.1 d27_Cut_cut_43 (Nat.le_of_ble_eq_true rfl) (Nat.le_of_ble_eq_true rfl) (Nat.le_of_ble_eq_true rfl) (Nat.le_of_ble_eq_true rfl) (fun v w ty H locs hp I => ?_) (fun E w ty H locs q ce hp _ _ _ _ => ?_)
  rotate_left
  · obtain ⟨hv, -⟩ := hp; cases hv
  obtain ⟨hv, rfl, rfl⟩ := hp
  cases hv
  have I : q_I D q_cl _ s [(k_kind, .inl (cA_kind, 32800, .inl g_kind)), (k_from, .inl (cA_from, 32800, .inl g_from)), (k_to, .inl (cA_to, 32800, .inl g_to)), (t_cut, .inr (15, [.ref k_text, .int 0, .int 0, .int 0, .ref k_kind, .ref k_from, .ref k_to, .ref k_width, .ref k_ones, .ref k_unknown, .ref k_signed, .int 0, .long 0, .long 0, .long 0, .int 0, .int 0]))] [(cA_kind, .int), (cA_from, .int), (cA_to, .int)] H _ := I
  refine W.eq (g2 := F0 m 46 ls []) rfl ?_
  refine lv_aload_n hx hb d27_Cut_cut_46 rfl (lv_at hl 1 rfl) ?_
  refine q_get C I 3 11 rfl rfl i_Cut (by decide) m27_15 rfl d27_Cut_cut_47 ?_
  refine lv_if_eq (tgt := 64) hx hb d27_Cut_cut_50 (by decide) (fun _ => ?_) (fun h => absurd h (by decide))
  refine lv_aload_n hx hb d27_Cut_cut_64 rfl (lv_at hl 1 rfl) ?_
  refine q_go (wr := []) (tyr := []) C I (q_siteV (As := []) (rest := []) (q0 := 3) C I rfl rfl m27_20 m27_22 m27_23 m27_21 ⟨by decide, by decide⟩ (Eq.trans (b := some 0) (by decide +kernel) rfl) rfl d27_Cut_cut_65) (c_Cut_one l D t_cut k_text k_kind k_from k_to k_width k_ones k_unknown k_signed cA_kind g_kind cA_from g_from cA_to g_to) m27_21 m27_10 [3, 0, 1, 2] [] [0, 1, 2] [] rfl rfl (by decide) (by decide) (by decide) rfl rfl hl.1 d27_Cut_cut_65 (Nat.le_of_ble_eq_true rfl) (Nat.le_of_ble_eq_true rfl) (Nat.le_of_ble_eq_true rfl) (Nat.le_of_ble_eq_true rfl) (fun v w ty H locs hp I => ?_) (fun E w ty H locs q ce hp _ _ _ _ => ?_)
  rotate_left
  · obtain ⟨hv, -⟩ := hp; cases hv
  obtain ⟨hv, rfl, rfl⟩ := hp
  cases hv
  have I : q_I D q_cl _ s [(t_cut, .inr (15, [.ref k_text, .int 0, .int 1, .int 0, .ref k_kind, .ref k_from, .ref k_to, .ref k_width, .ref k_ones, .ref k_unknown, .ref k_signed, .int 0, .long 0, .long 0, .long 0, .int 0, .int 0])), (k_kind, .inl (cA_kind, 32800, .inl (upd g_kind 0 0))), (k_from, .inl (cA_from, 32800, .inl (upd g_from 0 0))), (k_to, .inl (cA_to, 32800, .inl (upd g_to 0 0)))] [(cA_kind, .int), (cA_from, .int), (cA_to, .int)] H _ := I
  refine W.eq (g2 := F0 m 68 ls []) rfl ?_
  refine lv_aload_n hx hb d27_Cut_cut_68 rfl (lv_at hl 1 rfl) ?_
  refine q_get C I 0 4 rfl rfl i_Cut (by decide) m27_2 rfl d27_Cut_cut_69 ?_
  refine lv_aload_n hx hb d27_Cut_cut_72 rfl (lv_at hl 1 rfl) ?_
  refine q_get C I 0 2 rfl rfl i_Cut (by decide) m27_3 rfl d27_Cut_cut_73 ?_
  refine lv_iconst (v := 1) hx hb d27_Cut_cut_76 (by decide) ?_
  refine lv_isub hx hb d27_Cut_cut_77 ?_
  refine W.eq (g2 := F0 m 78 ls [.int 0, .ref k_kind]) rfl ?_
  refine q_iald C I 1 0 rfl rfl (by unfold vp_in; decide) d27_Cut_cut_78 ?_
  refine W.eq (g2 := F0 m 79 ls [.int 0]) rfl ?_
  refine lv_if_eq (tgt := 97) hx hb d27_Cut_cut_79 (by decide) (fun _ => ?_) (fun h => absurd h (by decide))
  exact q_vret C hr I ⟨rfl, rfl, rfl⟩ (Nat.le_of_ble_eq_true rfl) (Nat.le_of_ble_eq_true rfl) d27_Cut_cut_97
set_option maxHeartbeats 4000000 in
set_option maxRecDepth 100000 in
/-- kind(): the END -/
theorem c_Tre_kind (l : Launch) (D : va_G) (t0 : Nat) (t_cut : Nat) (t_sort : Nat) (t_a : Nat) (t_b : Nat) (t_c : Nat) (t_d : Nat) (t_next : Nat) (t_token : Nat) (t_low : Nat) (t_first : Nat) (t_wrong : Nat) (k_text : Nat) (k_kind : Nat) (k_from : Nat) (k_to : Nat) (k_width : Nat) (k_ones : Nat) (k_unknown : Nat) (k_signed : Nat) (cA_kind : ClassId) (g_kind : Nat → Int32) : q_Met l ⟨"SignalTheatreModel$Tree", "kind", "()I"⟩ (Cond.code ⟨"SignalTheatreModel$Tree", "kind", "()I"⟩ prog_19_method_3_code 1 (some .int)) { frames := 0, cells := 0, slots := 0, locals := 0 } D q_cl [.ref t0] [(t0, .inr (14, [.ref t_cut, .ref t_sort, .ref t_a, .ref t_b, .ref t_c, .ref t_d, .ref t_next, .ref t_token, .ref t_low, .ref t_first, .int 0, .int (-1), .int 0, .int 0, .ref t_wrong])), (t_cut, .inr (15, [.ref k_text, .int 0, .int 1, .int 0, .ref k_kind, .ref k_from, .ref k_to, .ref k_width, .ref k_ones, .ref k_unknown, .ref k_signed, .int 0, .long 0, .long 0, .long 0, .int 0, .int 0])), (k_kind, .inl (cA_kind, 32800, .inl (upd g_kind 0 0)))] [(cA_kind, .int)] (fun r w ty => r = .inl (some (.int 0)) ∧ w = [(t0, .inr (14, [.ref t_cut, .ref t_sort, .ref t_a, .ref t_b, .ref t_c, .ref t_d, .ref t_next, .ref t_token, .ref t_low, .ref t_first, .int 0, .int (-1), .int 0, .int 0, .ref t_wrong])), (t_cut, .inr (15, [.ref k_text, .int 0, .int 1, .int 0, .ref k_kind, .ref k_from, .ref k_to, .ref k_width, .ref k_ones, .ref k_unknown, .ref k_signed, .int 0, .long 0, .long 0, .long 0, .int 0, .int 0])), (k_kind, .inl (cA_kind, 32800, .inl (upd g_kind 0 0)))] ∧ ty = [(cA_kind, .int)]) := by
  refine q_ofW (by decide) ?_
  intro p e s m below meth c C hr hin hex I
  have hx := C.1
  have hb := C.2.1
  have hl := lv_entry ([.ref t0]) (n := 1) (Nat.le_of_ble_eq_true rfl)
  rw [lg_entry_eq]
  generalize (lg_sl ([.ref t0]) ++ List.replicate (1 - (lg_sl ([.ref t0])).length) Slot.unset).toArray = ls at hl ⊢
  have hl : lv_has ls 1 [(0, .ref t0)] := hl
  refine lv_aload_n hx hb d27_Tre_kind_0 rfl (lv_at hl 0 rfl) ?_
  refine q_get C I 0 0 rfl rfl i_Tre (by decide) m27_24 rfl d27_Tre_kind_1 ?_
  refine q_get C I 1 4 rfl rfl i_Cut (by decide) m27_25 rfl d27_Tre_kind_4 ?_
  refine lv_aload_n hx hb d27_Tre_kind_7 rfl (lv_at hl 0 rfl) ?_
  refine q_get C I 0 12 rfl rfl i_Tre (by decide) m27_26 rfl d27_Tre_kind_8 ?_
  refine q_iald C I 2 0 rfl rfl (by unfold vp_in; decide) d27_Tre_kind_11 ?_
  refine W.eq (g2 := F0 m 12 ls [.int 0]) rfl ?_
  exact q_iret C hr I ⟨rfl, rfl, rfl⟩ (Nat.le_of_ble_eq_true rfl) (Nat.le_of_ble_eq_true rfl) d27_Tre_kind_12
set_option maxHeartbeats 4000000 in
set_option maxRecDepth 100000 in
/-- word(s): no -/
theorem c_Tre_word (l : Launch) (D : va_G) (t0 : Nat) (sx : Nat) (t_cut : Nat) (t_sort : Nat) (t_a : Nat) (t_b : Nat) (t_c : Nat) (t_d : Nat) (t_next : Nat) (t_token : Nat) (t_low : Nat) (t_first : Nat) (t_wrong : Nat) (k_text : Nat) (k_kind : Nat) (k_from : Nat) (k_to : Nat) (k_width : Nat) (k_ones : Nat) (k_unknown : Nat) (k_signed : Nat) (cA_kind : ClassId) (g_kind : Nat → Int32) : q_Met l ⟨"SignalTheatreModel$Tree", "word", "(Ljava/lang/String;)Z"⟩ (Cond.code ⟨"SignalTheatreModel$Tree", "word", "(Ljava/lang/String;)Z"⟩ prog_19_method_8_code 2 (some .boolean)) { frames := 1, cells := 0, slots := 0, locals := 12 } D q_cl [.ref t0, .ref sx] [(t0, .inr (14, [.ref t_cut, .ref t_sort, .ref t_a, .ref t_b, .ref t_c, .ref t_d, .ref t_next, .ref t_token, .ref t_low, .ref t_first, .int 0, .int (-1), .int 0, .int 0, .ref t_wrong])), (t_cut, .inr (15, [.ref k_text, .int 0, .int 1, .int 0, .ref k_kind, .ref k_from, .ref k_to, .ref k_width, .ref k_ones, .ref k_unknown, .ref k_signed, .int 0, .long 0, .long 0, .long 0, .int 0, .int 0])), (k_kind, .inl (cA_kind, 32800, .inl (upd g_kind 0 0)))] [(cA_kind, .int)] (fun r w ty => r = .inl (some (.int 0)) ∧ w = [(t0, .inr (14, [.ref t_cut, .ref t_sort, .ref t_a, .ref t_b, .ref t_c, .ref t_d, .ref t_next, .ref t_token, .ref t_low, .ref t_first, .int 0, .int (-1), .int 0, .int 0, .ref t_wrong])), (t_cut, .inr (15, [.ref k_text, .int 0, .int 1, .int 0, .ref k_kind, .ref k_from, .ref k_to, .ref k_width, .ref k_ones, .ref k_unknown, .ref k_signed, .int 0, .long 0, .long 0, .long 0, .int 0, .int 0])), (k_kind, .inl (cA_kind, 32800, .inl (upd g_kind 0 0)))] ∧ ty = [(cA_kind, .int)]) := by
  refine q_ofW (by decide) ?_
  intro p e s m below meth c C hr hin hex I
  have hx := C.1
  have hb := C.2.1
  have hl := lv_entry ([.ref t0, .ref sx]) (n := 2) (Nat.le_of_ble_eq_true rfl)
  rw [lg_entry_eq]
  generalize (lg_sl ([.ref t0, .ref sx]) ++ List.replicate (2 - (lg_sl ([.ref t0, .ref sx])).length) Slot.unset).toArray = ls at hl ⊢
  have hl : lv_has ls 2 [(0, .ref t0), (1, .ref sx)] := hl
  refine lv_aload_n hx hb d27_Tre_word_0 rfl (lv_at hl 0 rfl) ?_
  refine q_go (wr := []) (tyr := []) C I (q_siteV (As := []) (rest := []) (q0 := 0) C I rfl rfl m27_27 m27_29 m27_30 m27_28 ⟨by decide, by decide⟩ (Eq.trans (b := some 0) (by decide +kernel) rfl) rfl d27_Tre_word_1) (c_Tre_kind l D t0 t_cut t_sort t_a t_b t_c t_d t_next t_token t_low t_first t_wrong k_text k_kind k_from k_to k_width k_ones k_unknown k_signed cA_kind g_kind) m27_28 m27_31 [0, 1, 2] [] [0] [] rfl rfl (by decide) (by decide) (by decide) rfl rfl hl.1 d27_Tre_word_1 (Nat.le_of_ble_eq_true rfl) (Nat.le_of_ble_eq_true rfl) (Nat.le_of_ble_eq_true rfl) (Nat.le_of_ble_eq_true rfl) (fun v w ty H locs hp I => ?_) (fun E w ty H locs q ce hp _ _ _ _ => ?_)
  rotate_left
  · obtain ⟨hv, -⟩ := hp; cases hv
  obtain ⟨hv, rfl, rfl⟩ := hp
  cases hv
  have I : q_I D q_cl _ s [(t0, .inr (14, [.ref t_cut, .ref t_sort, .ref t_a, .ref t_b, .ref t_c, .ref t_d, .ref t_next, .ref t_token, .ref t_low, .ref t_first, .int 0, .int (-1), .int 0, .int 0, .ref t_wrong])), (t_cut, .inr (15, [.ref k_text, .int 0, .int 1, .int 0, .ref k_kind, .ref k_from, .ref k_to, .ref k_width, .ref k_ones, .ref k_unknown, .ref k_signed, .int 0, .long 0, .long 0, .long 0, .int 0, .int 0])), (k_kind, .inl (cA_kind, 32800, .inl (upd g_kind 0 0)))] [(cA_kind, .int)] H _ := I
  refine W.eq (g2 := F0 m 4 ls [.int 0]) rfl ?_
  refine lv_iconst (v := 1) hx hb d27_Tre_word_4 (by decide) ?_
  refine lv_icmp_ne (tgt := 24) hx hb d27_Tre_word_5 (by decide) (fun _ => ?_) (fun h => absurd h (by decide))
  refine lv_iconst (v := 0) hx hb d27_Tre_word_24 (by decide) ?_
  exact q_zret C hr rfl I ⟨rfl, rfl, rfl⟩ (Nat.le_of_ble_eq_true rfl) (Nat.le_of_ble_eq_true rfl) d27_Tre_word_25
set_option maxHeartbeats 4000000 in
set_option maxRecDepth 100000 in
/-- hasWord(s): no -/
theorem c_Tre_hasWord (l : Launch) (D : va_G) (t0 : Nat) (sx : Nat) (t_cut : Nat) (t_sort : Nat) (t_a : Nat) (t_b : Nat) (t_c : Nat) (t_d : Nat) (t_next : Nat) (t_token : Nat) (t_low : Nat) (t_first : Nat) (t_wrong : Nat) (k_text : Nat) (k_kind : Nat) (k_from : Nat) (k_to : Nat) (k_width : Nat) (k_ones : Nat) (k_unknown : Nat) (k_signed : Nat) (cA_kind : ClassId) (g_kind : Nat → Int32) : q_Met l ⟨"SignalTheatreModel$Tree", "hasWord", "(Ljava/lang/String;)Z"⟩ (Cond.code ⟨"SignalTheatreModel$Tree", "hasWord", "(Ljava/lang/String;)Z"⟩ prog_19_method_9_code 2 (some .boolean)) { frames := 2, cells := 0, slots := 0, locals := 25 } D q_cl [.ref t0, .ref sx] [(t0, .inr (14, [.ref t_cut, .ref t_sort, .ref t_a, .ref t_b, .ref t_c, .ref t_d, .ref t_next, .ref t_token, .ref t_low, .ref t_first, .int 0, .int (-1), .int 0, .int 0, .ref t_wrong])), (t_cut, .inr (15, [.ref k_text, .int 0, .int 1, .int 0, .ref k_kind, .ref k_from, .ref k_to, .ref k_width, .ref k_ones, .ref k_unknown, .ref k_signed, .int 0, .long 0, .long 0, .long 0, .int 0, .int 0])), (k_kind, .inl (cA_kind, 32800, .inl (upd g_kind 0 0)))] [(cA_kind, .int)] (fun r w ty => r = .inl (some (.int 0)) ∧ w = [(t0, .inr (14, [.ref t_cut, .ref t_sort, .ref t_a, .ref t_b, .ref t_c, .ref t_d, .ref t_next, .ref t_token, .ref t_low, .ref t_first, .int 0, .int (-1), .int 0, .int 0, .ref t_wrong])), (t_cut, .inr (15, [.ref k_text, .int 0, .int 1, .int 0, .ref k_kind, .ref k_from, .ref k_to, .ref k_width, .ref k_ones, .ref k_unknown, .ref k_signed, .int 0, .long 0, .long 0, .long 0, .int 0, .int 0])), (k_kind, .inl (cA_kind, 32800, .inl (upd g_kind 0 0)))] ∧ ty = [(cA_kind, .int)]) := by
  refine q_ofW (by decide) ?_
  intro p e s m below meth c C hr hin hex I
  have hx := C.1
  have hb := C.2.1
  have hl := lv_entry ([.ref t0, .ref sx]) (n := 2) (Nat.le_of_ble_eq_true rfl)
  rw [lg_entry_eq]
  generalize (lg_sl ([.ref t0, .ref sx]) ++ List.replicate (2 - (lg_sl ([.ref t0, .ref sx])).length) Slot.unset).toArray = ls at hl ⊢
  have hl : lv_has ls 2 [(0, .ref t0), (1, .ref sx)] := hl
  refine lv_aload_n hx hb d27_Tre_hasWord_0 rfl (lv_at hl 0 rfl) ?_
  refine lv_aload_n hx hb d27_Tre_hasWord_1 rfl (lv_at hl 1 rfl) ?_
  refine q_go (wr := []) (tyr := []) C I (q_siteV (As := [.ref sx]) (rest := []) (q0 := 0) C I rfl rfl m27_32 m27_34 m27_35 m27_33 ⟨by decide, by decide⟩ (Eq.trans (b := some 1) (by decide +kernel) rfl) rfl d27_Tre_hasWord_2) (c_Tre_word l D t0 sx t_cut t_sort t_a t_b t_c t_d t_next t_token t_low t_first t_wrong k_text k_kind k_from k_to k_width k_ones k_unknown k_signed cA_kind g_kind) m27_33 m27_31 [0, 1, 2] [] [0] [] rfl rfl (by decide) (by decide) (by decide) rfl rfl hl.1 d27_Tre_hasWord_2 (Nat.le_of_ble_eq_true rfl) (Nat.le_of_ble_eq_true rfl) (Nat.le_of_ble_eq_true rfl) (Nat.le_of_ble_eq_true rfl) (fun v w ty H locs hp I => ?_) (fun E w ty H locs q ce hp _ _ _ _ => ?_)
  rotate_left
  · obtain ⟨hv, -⟩ := hp; cases hv
  obtain ⟨hv, rfl, rfl⟩ := hp
  cases hv
  have I : q_I D q_cl _ s [(t0, .inr (14, [.ref t_cut, .ref t_sort, .ref t_a, .ref t_b, .ref t_c, .ref t_d, .ref t_next, .ref t_token, .ref t_low, .ref t_first, .int 0, .int (-1), .int 0, .int 0, .ref t_wrong])), (t_cut, .inr (15, [.ref k_text, .int 0, .int 1, .int 0, .ref k_kind, .ref k_from, .ref k_to, .ref k_width, .ref k_ones, .ref k_unknown, .ref k_signed, .int 0, .long 0, .long 0, .long 0, .int 0, .int 0])), (k_kind, .inl (cA_kind, 32800, .inl (upd g_kind 0 0)))] [(cA_kind, .int)] H _ := I
  refine W.eq (g2 := F0 m 5 ls [.int 0]) rfl ?_
  refine lv_if_ne (tgt := 10) hx hb d27_Tre_hasWord_5 (by decide) (fun h => absurd h (by decide)) (fun _ => ?_)
  refine lv_iconst (v := 0) hx hb d27_Tre_hasWord_8 (by decide) ?_
  exact q_zret C hr rfl I ⟨rfl, rfl, rfl⟩ (Nat.le_of_ble_eq_true rfl) (Nat.le_of_ble_eq_true rfl) d27_Tre_hasWord_9
set_option maxHeartbeats 4000000 in
set_option maxRecDepth 100000 in
/-- wrong() -/
theorem c_Tre_wrong (l : Launch) (D : va_G) (t0 : Nat) (t_cut : Nat) (t_sort : Nat) (t_a : Nat) (t_b : Nat) (t_c : Nat) (t_d : Nat) (t_next : Nat) (t_token : Nat) (t_low : Nat) (t_first : Nat) (t_wrong : Nat) (k_text : Nat) (k_kind : Nat) (k_from : Nat) (k_to : Nat) (k_width : Nat) (k_ones : Nat) (k_unknown : Nat) (k_signed : Nat) (cA_from : ClassId) (g_from : Nat → Int32) (vv0 : Value) (vv1 : Value) (vv2 : Value) (vv3 : Value) (vv4 : Value) (vv7 : Value) : q_Met l ⟨"SignalTheatreModel$Tree", "wrong", "()LSignalTheatreModel$Wrong;"⟩ (Cond.code ⟨"SignalTheatreModel$Tree", "wrong", "()LSignalTheatreModel$Wrong;"⟩ prog_19_method_2_code 1 (some (.object "SignalTheatreModel$Wrong"))) { frames := 0, cells := 0, slots := 0, locals := 0 } D q_cl [.ref t0] [(t0, .inr (14, [.ref t_cut, .ref t_sort, .ref t_a, .ref t_b, .ref t_c, .ref t_d, .ref t_next, .ref t_token, .ref t_low, .ref t_first, .int 0, .int (-1), .int 0, .int 0, .ref t_wrong])), (t_cut, .inr (15, [.ref k_text, .int 0, .int 1, .int 0, .ref k_kind, .ref k_from, .ref k_to, .ref k_width, .ref k_ones, .ref k_unknown, .ref k_signed, .int 0, .long 0, .long 0, .long 0, .int 0, .int 0])), (k_from, .inl (cA_from, 32800, .inl (upd g_from 0 0))), (t_wrong, .inr (16, [vv0, vv1, vv2, vv3, vv4, .int 0, .int 0, vv7]))] [(cA_from, .int)] (fun r w ty => r = .inl (some (.ref t_wrong)) ∧ w = [(t0, .inr (14, [.ref t_cut, .ref t_sort, .ref t_a, .ref t_b, .ref t_c, .ref t_d, .ref t_next, .ref t_token, .ref t_low, .ref t_first, .int 0, .int (-1), .int 0, .int 0, .ref t_wrong])), (t_cut, .inr (15, [.ref k_text, .int 0, .int 1, .int 0, .ref k_kind, .ref k_from, .ref k_to, .ref k_width, .ref k_ones, .ref k_unknown, .ref k_signed, .int 0, .long 0, .long 0, .long 0, .int 0, .int 0])), (k_from, .inl (cA_from, 32800, .inl (upd g_from 0 0))), (t_wrong, .inr (16, [vv0, vv1, vv2, vv3, vv4, .int 1, .int 0, vv7]))] ∧ ty = [(cA_from, .int)]) := by
  refine q_ofW (by decide) ?_
  intro p e s m below meth c C hr hin hex I
  have hx := C.1
  have hb := C.2.1
  have hl := lv_entry ([.ref t0]) (n := 1) (Nat.le_of_ble_eq_true rfl)
  rw [lg_entry_eq]
  generalize (lg_sl ([.ref t0]) ++ List.replicate (1 - (lg_sl ([.ref t0])).length) Slot.unset).toArray = ls at hl ⊢
  have hl : lv_has ls 1 [(0, .ref t0)] := hl
  refine lv_aload_n hx hb d27_Tre_wrong_0 rfl (lv_at hl 0 rfl) ?_
  refine q_get C I 0 14 rfl rfl i_Tre (by decide) m27_36 rfl d27_Tre_wrong_1 ?_
  refine lv_iconst (v := 1) hx hb d27_Tre_wrong_4 (by decide) ?_
  refine q_put t_Wro t_Wro_ok n_Wro C I 3 5 rfl rfl i_Wro (by decide) m27_37 rfl rfl rfl (Nat.le_of_ble_eq_true rfl) d27_Tre_wrong_5 (fun H locs I => ?_)
  have I : q_I D q_cl _ s [(t0, .inr (14, [.ref t_cut, .ref t_sort, .ref t_a, .ref t_b, .ref t_c, .ref t_d, .ref t_next, .ref t_token, .ref t_low, .ref t_first, .int 0, .int (-1), .int 0, .int 0, .ref t_wrong])), (t_cut, .inr (15, [.ref k_text, .int 0, .int 1, .int 0, .ref k_kind, .ref k_from, .ref k_to, .ref k_width, .ref k_ones, .ref k_unknown, .ref k_signed, .int 0, .long 0, .long 0, .long 0, .int 0, .int 0])), (k_from, .inl (cA_from, 32800, .inl (upd g_from 0 0))), (t_wrong, .inr (16, [vv0, vv1, vv2, vv3, vv4, .int 1, .int 0, vv7]))] [(cA_from, .int)] H _ := I
  refine lv_aload_n hx hb d27_Tre_wrong_8 rfl (lv_at hl 0 rfl) ?_
  refine q_get C I 0 14 rfl rfl i_Tre (by decide) m27_36 rfl d27_Tre_wrong_9 ?_
  refine lv_aload_n hx hb d27_Tre_wrong_12 rfl (lv_at hl 0 rfl) ?_
  refine q_get C I 0 0 rfl rfl i_Tre (by decide) m27_24 rfl d27_Tre_wrong_13 ?_
  refine q_get C I 1 5 rfl rfl i_Cut (by decide) m27_38 rfl d27_Tre_wrong_16 ?_
  refine lv_aload_n hx hb d27_Tre_wrong_19 rfl (lv_at hl 0 rfl) ?_
  refine q_get C I 0 12 rfl rfl i_Tre (by decide) m27_26 rfl d27_Tre_wrong_20 ?_
  refine q_iald C I 2 0 rfl rfl (by unfold vp_in; decide) d27_Tre_wrong_23 ?_
  refine W.eq (g2 := F0 m 24 ls [.int 0, .ref t_wrong]) rfl ?_
  refine q_put t_Wro t_Wro_ok n_Wro C I 3 6 rfl rfl i_Wro (by decide) m27_39 rfl rfl rfl (Nat.le_of_ble_eq_true rfl) d27_Tre_wrong_24 (fun H locs I => ?_)
  have I : q_I D q_cl _ s [(t0, .inr (14, [.ref t_cut, .ref t_sort, .ref t_a, .ref t_b, .ref t_c, .ref t_d, .ref t_next, .ref t_token, .ref t_low, .ref t_first, .int 0, .int (-1), .int 0, .int 0, .ref t_wrong])), (t_cut, .inr (15, [.ref k_text, .int 0, .int 1, .int 0, .ref k_kind, .ref k_from, .ref k_to, .ref k_width, .ref k_ones, .ref k_unknown, .ref k_signed, .int 0, .long 0, .long 0, .long 0, .int 0, .int 0])), (k_from, .inl (cA_from, 32800, .inl (upd g_from 0 0))), (t_wrong, .inr (16, [vv0, vv1, vv2, vv3, vv4, .int 1, .int 0, vv7]))] [(cA_from, .int)] H _ := I
  refine lv_aload_n hx hb d27_Tre_wrong_27 rfl (lv_at hl 0 rfl) ?_
  refine q_get C I 0 14 rfl rfl i_Tre (by decide) m27_36 rfl d27_Tre_wrong_28 ?_
  exact q_aret C hr (Or.inl ⟨_, rfl⟩) (Or.inr ⟨_, rfl⟩) I ⟨rfl, rfl, rfl⟩ (Nat.le_of_ble_eq_true rfl) (Nat.le_of_ble_eq_true rfl) d27_Tre_wrong_31
set_option maxHeartbeats 4000000 in
set_option maxRecDepth 100000 in
/-- needWord(s): throws -/
theorem c_Tre_needWord (l : Launch) (D : va_G) (t0 : Nat) (sx : Nat) (t_cut : Nat) (t_sort : Nat) (t_a : Nat) (t_b : Nat) (t_c : Nat) (t_d : Nat) (t_next : Nat) (t_token : Nat) (t_low : Nat) (t_first : Nat) (t_wrong : Nat) (k_text : Nat) (k_kind : Nat) (k_from : Nat) (k_to : Nat) (k_width : Nat) (k_ones : Nat) (k_unknown : Nat) (k_signed : Nat) (cA_kind : ClassId) (g_kind : Nat → Int32) (cA_from : ClassId) (g_from : Nat → Int32) (vv0 : Value) (vv1 : Value) (vv2 : Value) (vv3 : Value) (vv4 : Value) (vv7 : Value) : q_Met l ⟨"SignalTheatreModel$Tree", "needWord", "(Ljava/lang/String;)V"⟩ (Cond.code ⟨"SignalTheatreModel$Tree", "needWord", "(Ljava/lang/String;)V"⟩ prog_19_method_10_code 2 none) { frames := 3, cells := 0, slots := 0, locals := 38 } D q_cl [.ref t0, .ref sx] [(t0, .inr (14, [.ref t_cut, .ref t_sort, .ref t_a, .ref t_b, .ref t_c, .ref t_d, .ref t_next, .ref t_token, .ref t_low, .ref t_first, .int 0, .int (-1), .int 0, .int 0, .ref t_wrong])), (t_cut, .inr (15, [.ref k_text, .int 0, .int 1, .int 0, .ref k_kind, .ref k_from, .ref k_to, .ref k_width, .ref k_ones, .ref k_unknown, .ref k_signed, .int 0, .long 0, .long 0, .long 0, .int 0, .int 0])), (k_kind, .inl (cA_kind, 32800, .inl (upd g_kind 0 0))), (k_from, .inl (cA_from, 32800, .inl (upd g_from 0 0))), (t_wrong, .inr (16, [vv0, vv1, vv2, vv3, vv4, .int 0, .int 0, vv7]))] [(cA_kind, .int), (cA_from, .int)] (fun r w ty => r = Sum.inr "SignalTheatreModel$Wrong" ∧ w = [(t_wrong, .inr (16, [vv0, vv1, vv2, vv3, vv4, .int 1, .int 0, vv7]))] ∧ ty = []) := by
  refine q_ofW (by decide) ?_
  intro p e s m below meth c C hr hin hex I
  have hx := C.1
  have hb := C.2.1
  have hl := lv_entry ([.ref t0, .ref sx]) (n := 2) (Nat.le_of_ble_eq_true rfl)
  rw [lg_entry_eq]
  generalize (lg_sl ([.ref t0, .ref sx]) ++ List.replicate (2 - (lg_sl ([.ref t0, .ref sx])).length) Slot.unset).toArray = ls at hl ⊢
  have hl : lv_has ls 2 [(0, .ref t0), (1, .ref sx)] := hl
  refine lv_aload_n hx hb d27_Tre_needWord_0 rfl (lv_at hl 0 rfl) ?_
  refine lv_aload_n hx hb d27_Tre_needWord_1 rfl (lv_at hl 1 rfl) ?_
  refine q_go (wr := [(k_from, .inl (cA_from, 32800, .inl (upd g_from 0 0))), (t_wrong, .inr (16, [vv0, vv1, vv2, vv3, vv4, .int 0, .int 0, vv7]))]) (tyr := [(cA_from, .int)]) C I (q_siteV (As := [.ref sx]) (rest := []) (q0 := 0) C I rfl rfl m27_40 m27_42 m27_43 m27_41 ⟨by decide, by decide⟩ (Eq.trans (b := some 1) (by decide +kernel) rfl) rfl d27_Tre_needWord_2) (c_Tre_hasWord l D t0 sx t_cut t_sort t_a t_b t_c t_d t_next t_token t_low t_first t_wrong k_text k_kind k_from k_to k_width k_ones k_unknown k_signed cA_kind g_kind) m27_41 m27_31 [0, 1, 2] [3, 4] [0] [1] rfl rfl (by decide) (by decide) (by decide) rfl rfl hl.1 d27_Tre_needWord_2 (Nat.le_of_ble_eq_true rfl) (Nat.le_of_ble_eq_true rfl) (Nat.le_of_ble_eq_true rfl) (Nat.le_of_ble_eq_true rfl) (fun v w ty H locs hp I => ?_) (fun E w ty H locs q ce hp _ _ _ _ => ?_)
  rotate_left
  · obtain ⟨hv, -⟩ := hp; cases hv
  obtain ⟨hv, rfl, rfl⟩ := hp
  cases hv
  have I : q_I D q_cl _ s [(k_from, .inl (cA_from, 32800, .inl (upd g_from 0 0))), (t_wrong, .inr (16, [vv0, vv1, vv2, vv3, vv4, .int 0, .int 0, vv7])), (t0, .inr (14, [.ref t_cut, .ref t_sort, .ref t_a, .ref t_b, .ref t_c, .ref t_d, .ref t_next, .ref t_token, .ref t_low, .ref t_first, .int 0, .int (-1), .int 0, .int 0, .ref t_wrong])), (t_cut, .inr (15, [.ref k_text, .int 0, .int 1, .int 0, .ref k_kind, .ref k_from, .ref k_to, .ref k_width, .ref k_ones, .ref k_unknown, .ref k_signed, .int 0, .long 0, .long 0, .long 0, .int 0, .int 0])), (k_kind, .inl (cA_kind, 32800, .inl (upd g_kind 0 0)))] [(cA_from, .int), (cA_kind, .int)] H _ := I
  refine W.eq (g2 := F0 m 5 ls [.int 0]) rfl ?_
  refine lv_if_ne (tgt := 13) hx hb d27_Tre_needWord_5 (by decide) (fun h => absurd h (by decide)) (fun _ => ?_)
  refine lv_aload_n hx hb d27_Tre_needWord_8 rfl (lv_at hl 0 rfl) ?_
  refine q_go (wr := [(k_kind, .inl (cA_kind, 32800, .inl (upd g_kind 0 0)))]) (tyr := [(cA_kind, .int)]) C I (q_siteV (As := []) (rest := []) (q0 := 2) C I rfl rfl m27_44 m27_46 m27_47 m27_45 ⟨by decide, by decide⟩ (Eq.trans (b := some 0) (by decide +kernel) rfl) rfl d27_Tre_needWord_9) (c_Tre_wrong l D t0 t_cut t_sort t_a t_b t_c t_d t_next t_token t_low t_first t_wrong k_text k_kind k_from k_to k_width k_ones k_unknown k_signed cA_from g_from vv0 vv1 vv2 vv3 vv4 vv7) m27_45 m27_31 [2, 3, 0, 1] [4] [0] [1] rfl rfl (by decide) (by decide) (by decide) rfl rfl hl.1 d27_Tre_needWord_9 (Nat.le_of_ble_eq_true rfl) (Nat.le_of_ble_eq_true rfl) (Nat.le_of_ble_eq_true rfl) (Nat.le_of_ble_eq_true rfl) (fun v w ty H locs hp I => ?_) (fun E w ty H locs q ce hp _ _ _ _ => ?_)
  rotate_left
  · obtain ⟨hv, -⟩ := hp; cases hv
  obtain ⟨hv, rfl, rfl⟩ := hp
  cases hv
  have I : q_I D q_cl _ s [(k_kind, .inl (cA_kind, 32800, .inl (upd g_kind 0 0))), (t0, .inr (14, [.ref t_cut, .ref t_sort, .ref t_a, .ref t_b, .ref t_c, .ref t_d, .ref t_next, .ref t_token, .ref t_low, .ref t_first, .int 0, .int (-1), .int 0, .int 0, .ref t_wrong])), (t_cut, .inr (15, [.ref k_text, .int 0, .int 1, .int 0, .ref k_kind, .ref k_from, .ref k_to, .ref k_width, .ref k_ones, .ref k_unknown, .ref k_signed, .int 0, .long 0, .long 0, .long 0, .int 0, .int 0])), (k_from, .inl (cA_from, 32800, .inl (upd g_from 0 0))), (t_wrong, .inr (16, [vv0, vv1, vv2, vv3, vv4, .int 1, .int 0, vv7]))] [(cA_kind, .int), (cA_from, .int)] H _ := I
  refine W.eq (g2 := F0 m 12 ls [.ref t_wrong]) rfl ?_
  obtain ⟨ce, hce, hcv, hcl⟩ := q_recv I (ci := 16) rfl (q0 := 4) rfl
  exact q_athrow C d27_Tre_needWord_12 (q_out C hex (q_pick I [4] [] rfl (by decide) rfl) ⟨rfl, rfl, rfl⟩ hce hcv hcl (fun x fs h => by cases h; rfl) (Nat.le_of_ble_eq_true rfl) (Nat.le_of_ble_eq_true rfl))
set_option maxHeartbeats 4000000 in
set_option maxRecDepth 100000 in
/-- module(): throws -/
theorem c_Tre_module (l : Launch) (D : va_G) (t0 : Nat) (t_cut : Nat) (t_sort : Nat) (t_a : Nat) (t_b : Nat) (t_c : Nat) (t_d : Nat) (t_next : Nat) (t_token : Nat) (t_low : Nat) (t_first : Nat) (t_wrong : Nat) (k_text : Nat) (k_kind : Nat) (k_from : Nat) (k_to : Nat) (k_width : Nat) (k_ones : Nat) (k_unknown : Nat) (k_signed : Nat) (cA_kind : ClassId) (g_kind : Nat → Int32) (cA_from : ClassId) (g_from : Nat → Int32) (vv0 : Value) (vv1 : Value) (vv2 : Value) (vv3 : Value) (vv4 : Value) (vv7 : Value) : q_Met l ⟨"SignalTheatreModel$Tree", "module", "()I"⟩ (Cond.code ⟨"SignalTheatreModel$Tree", "module", "()I"⟩ prog_19_method_48_code 8 (some .int)) { frames := 4, cells := 0, slots := 0, locals := 51 } D q_cl [.ref t0] [(t0, .inr (14, [.ref t_cut, .ref t_sort, .ref t_a, .ref t_b, .ref t_c, .ref t_d, .ref t_next, .ref t_token, .ref t_low, .ref t_first, .int 0, .int (-1), .int 0, .int 0, .ref t_wrong])), (t_cut, .inr (15, [.ref k_text, .int 0, .int 1, .int 0, .ref k_kind, .ref k_from, .ref k_to, .ref k_width, .ref k_ones, .ref k_unknown, .ref k_signed, .int 0, .long 0, .long 0, .long 0, .int 0, .int 0])), (k_kind, .inl (cA_kind, 32800, .inl (upd g_kind 0 0))), (k_from, .inl (cA_from, 32800, .inl (upd g_from 0 0))), (t_wrong, .inr (16, [vv0, vv1, vv2, vv3, vv4, .int 0, .int 0, vv7]))] [(cA_kind, .int), (cA_from, .int)] (fun r w ty => r = Sum.inr "SignalTheatreModel$Wrong" ∧ w = [(t_wrong, .inr (16, [vv0, vv1, vv2, vv3, vv4, .int 1, .int 0, vv7]))] ∧ ty = []) := by
  refine q_ofW (by decide) ?_
  intro p e s m below meth c C hr hin hex I
  have hx := C.1
  have hb := C.2.1
  have hl := lv_entry ([.ref t0]) (n := 8) (Nat.le_of_ble_eq_true rfl)
  rw [lg_entry_eq]
  generalize (lg_sl ([.ref t0]) ++ List.replicate (8 - (lg_sl ([.ref t0])).length) Slot.unset).toArray = ls at hl ⊢
  have hl : lv_has ls 8 [(0, .ref t0)] := hl
  refine lv_aload_n hx hb d27_Tre_module_0 rfl (lv_at hl 0 rfl) ?_
  refine q_get C I 0 12 rfl rfl i_Tre (by decide) m27_26 rfl d27_Tre_module_1 ?_
  refine lv_istore_n (lv' := [(1, .int 0), (0, .ref t0)]) hx hb d27_Tre_module_4 rfl hl (by decide) rfl (fun ls hl => ?_)
  refine lv_iconst (v := -1) hx hb d27_Tre_module_5 (by decide) ?_
  refine lv_istore_n (lv' := [(2, .int (-1)), (1, .int 0), (0, .ref t0)]) hx hb d27_Tre_module_6 rfl hl (by decide) rfl (fun ls hl => ?_)
  refine lv_iconst (v := -1) hx hb d27_Tre_module_7 (by decide) ?_
  refine lv_istore_n (lv' := [(3, .int (-1)), (2, .int (-1)), (1, .int 0), (0, .ref t0)]) hx hb d27_Tre_module_8 rfl hl (by decide) rfl (fun ls hl => ?_)
  refine lv_iconst (v := -1) hx hb d27_Tre_module_9 (by decide) ?_
  refine lv_istore (lv' := [(4, .int (-1)), (3, .int (-1)), (2, .int (-1)), (1, .int 0), (0, .ref t0)]) hx hb d27_Tre_module_10 hl (by decide) rfl (fun ls hl => ?_)
  refine lv_aload_n hx hb d27_Tre_module_12 rfl (lv_at hl 4 rfl) ?_
  refine q_ldcw C m27_48 d27_Tre_module_13 (fun sr1 => ?_)
  refine q_go (wr := []) (tyr := []) C I (q_siteV (As := [.ref sr1]) (rest := []) (q0 := 0) C I rfl rfl m27_49 m27_51 m27_52 m27_50 ⟨by decide, by decide⟩ (Eq.trans (b := some 1) (by decide +kernel) rfl) rfl d27_Tre_module_16) (c_Tre_needWord l D t0 sr1 t_cut t_sort t_a t_b t_c t_d t_next t_token t_low t_first t_wrong k_text k_kind k_from k_to k_width k_ones k_unknown k_signed cA_kind g_kind cA_from g_from vv0 vv1 vv2 vv3 vv4 vv7) m27_50 m27_31 [0, 1, 2, 3, 4] [] [0, 1] [] rfl rfl (by decide) (by decide) (by decide) rfl rfl hl.1 d27_Tre_module_16 (Nat.le_of_ble_eq_true rfl) (Nat.le_of_ble_eq_true rfl) (Nat.le_of_ble_eq_true rfl) (Nat.le_of_ble_eq_true rfl) (fun v w ty H locs hp I => by obtain ⟨hv, -⟩ := hp; cases hv) (fun E w ty H locs q ce hp I hce hcv hcl hX => ?_)
  obtain ⟨hv, rfl, rfl⟩ := hp
  cases hv
  obtain rfl : t_wrong = q := hX _ _ rfl
  have I : q_I D q_cl _ s [(t_wrong, .inr (16, [vv0, vv1, vv2, vv3, vv4, .int 1, .int 0, vv7]))] [] H _ := I
  exact q_out C hex (q_pick I [0] [] rfl (by decide) rfl) ⟨rfl, rfl, rfl⟩ hce hcv hcl (fun x fs h => by cases h; rfl) (Nat.le_of_ble_eq_true rfl) (Nat.le_of_ble_eq_true rfl)
set_option maxHeartbeats 4000000 in
set_option maxRecDepth 100000 in
/-- read(row, 0): throws -/
theorem c_Tre_read (l : Launch) (D : va_G) (t0 : Nat) (bb : Nat) (t_cut : Nat) (t_sort : Nat) (t_a : Nat) (t_b : Nat) (t_c : Nat) (t_d : Nat) (t_next : Nat) (t_token : Nat) (t_low : Nat) (t_first : Nat) (t_wrong : Nat) (k_text : Nat) (k_kind : Nat) (k_from : Nat) (k_to : Nat) (k_width : Nat) (k_ones : Nat) (k_unknown : Nat) (k_signed : Nat) (cA_kind : ClassId) (g_kind : Nat → Int32) (cA_from : ClassId) (g_from : Nat → Int32) (cA_to : ClassId) (g_to : Nat → Int32) (vv0 : Value) (vv1 : Value) (vv2 : Value) (vv3 : Value) (vv4 : Value) (vv7 : Value) : q_Met l ⟨"SignalTheatreModel$Tree", "read", "([BI)V"⟩ (Cond.code ⟨"SignalTheatreModel$Tree", "read", "([BI)V"⟩ prog_19_method_49_code 5 none) { frames := 5, cells := 0, slots := 0, locals := 70 } D q_cl [.ref t0, .ref bb, .int 0] [(t0, .inr (14, [.ref t_cut, .ref t_sort, .ref t_a, .ref t_b, .ref t_c, .ref t_d, .ref t_next, .ref t_token, .ref t_low, .ref t_first, .int 0, .int 0, .int 0, .int 0, .ref t_wrong])), (t_cut, .inr (15, [.ref k_text, .int 0, .int 0, .int 0, .ref k_kind, .ref k_from, .ref k_to, .ref k_width, .ref k_ones, .ref k_unknown, .ref k_signed, .int 0, .long 0, .long 0, .long 0, .int 0, .int 0])), (k_kind, .inl (cA_kind, 32800, .inl g_kind)), (k_from, .inl (cA_from, 32800, .inl g_from)), (k_to, .inl (cA_to, 32800, .inl g_to)), (t_wrong, .inr (16, [vv0, vv1, vv2, vv3, vv4, .int 0, .int 0, vv7]))] [(cA_kind, .int), (cA_from, .int), (cA_to, .int)] (fun r w ty => r = Sum.inr "SignalTheatreModel$Wrong" ∧ w = [(t_wrong, .inr (16, [vv0, vv1, vv2, vv3, vv4, .int 1, .int 0, vv7]))] ∧ ty = []) := by
  refine q_ofW (by decide) ?_
  intro p e s m below meth c C hr hin hex I
  have hx := C.1
  have hb := C.2.1
  have hl := lv_entry ([.ref t0, .ref bb, .int 0]) (n := 5) (Nat.le_of_ble_eq_true rfl)
  rw [lg_entry_eq]
  generalize (lg_sl ([.ref t0, .ref bb, .int 0]) ++ List.replicate (5 - (lg_sl ([.ref t0, .ref bb, .int 0])).length) Slot.unset).toArray = ls at hl ⊢
  have hl : lv_has ls 5 [(0, .ref t0), (1, .ref bb), (2, .int 0)] := hl
  refine lv_aload_n hx hb d27_Tre_read_0 rfl (lv_at hl 0 rfl) ?_
  refine q_get C I 0 0 rfl rfl i_Tre (by decide) m27_24 rfl d27_Tre_read_1 ?_
  refine lv_aload_n hx hb d27_Tre_read_4 rfl (lv_at hl 1 rfl) ?_
  refine lv_iload_n hx hb d27_Tre_read_5 rfl (lv_at hl 2 rfl) ?_
  refine q_go (wr := [(t0, .inr (14, [.ref t_cut, .ref t_sort, .ref t_a, .ref t_b, .ref t_c, .ref t_d, .ref t_next, .ref t_token, .ref t_low, .ref t_first, .int 0, .int 0, .int 0, .int 0, .ref t_wrong])), (t_wrong, .inr (16, [vv0, vv1, vv2, vv3, vv4, .int 0, .int 0, vv7]))]) (tyr := []) C I (q_siteV (As := [.ref bb, .int 0]) (rest := []) (q0 := 1) C I rfl rfl m27_53 m27_55 m27_56 m27_54 ⟨by decide, by decide⟩ (Eq.trans (b := some 2) (by decide +kernel) rfl) rfl d27_Tre_read_6) (c_Cut_cut l D t_cut bb k_text k_kind k_from k_to k_width k_ones k_unknown k_signed cA_kind g_kind cA_from g_from cA_to g_to) m27_54 m27_10 [1, 2, 3, 4] [0, 5] [0, 1, 2] [] rfl rfl (by decide) (by decide) (by decide) rfl rfl hl.1 d27_Tre_read_6 (Nat.le_of_ble_eq_true rfl) (Nat.le_of_ble_eq_true rfl) (Nat.le_of_ble_eq_true rfl) (Nat.le_of_ble_eq_true rfl) (fun v w ty H locs hp I => ?_) (fun E w ty H locs q ce hp _ _ _ _ => ?_)
  rotate_left
  · obtain ⟨hv, -⟩ := hp; cases hv
  obtain ⟨hv, rfl, rfl⟩ := hp
  cases hv
  have I : q_I D q_cl _ s [(t0, .inr (14, [.ref t_cut, .ref t_sort, .ref t_a, .ref t_b, .ref t_c, .ref t_d, .ref t_next, .ref t_token, .ref t_low, .ref t_first, .int 0, .int 0, .int 0, .int 0, .ref t_wrong])), (t_wrong, .inr (16, [vv0, vv1, vv2, vv3, vv4, .int 0, .int 0, vv7])), (t_cut, .inr (15, [.ref k_text, .int 0, .int 1, .int 0, .ref k_kind, .ref k_from, .ref k_to, .ref k_width, .ref k_ones, .ref k_unknown, .ref k_signed, .int 0, .long 0, .long 0, .long 0, .int 0, .int 0])), (k_kind, .inl (cA_kind, 32800, .inl (upd g_kind 0 0))), (k_from, .inl (cA_from, 32800, .inl (upd g_from 0 0))), (k_to, .inl (cA_to, 32800, .inl (upd g_to 0 0)))] [(cA_kind, .int), (cA_from, .int), (cA_to, .int)] H _ := I
  refine W.eq (g2 := F0 m 9 ls []) rfl ?_
  refine lv_aload_n hx hb d27_Tre_read_9 rfl (lv_at hl 0 rfl) ?_
  refine lv_iconst (v := 0) hx hb d27_Tre_read_10 (by decide) ?_
  refine q_put t_Tre t_Tre_ok n_Tre C I 0 12 rfl rfl i_Tre (by decide) m27_26 rfl rfl rfl (Nat.le_of_ble_eq_true rfl) d27_Tre_read_11 (fun H locs I => ?_)
  have I : q_I D q_cl _ s [(t0, .inr (14, [.ref t_cut, .ref t_sort, .ref t_a, .ref t_b, .ref t_c, .ref t_d, .ref t_next, .ref t_token, .ref t_low, .ref t_first, .int 0, .int 0, .int 0, .int 0, .ref t_wrong])), (t_wrong, .inr (16, [vv0, vv1, vv2, vv3, vv4, .int 0, .int 0, vv7])), (t_cut, .inr (15, [.ref k_text, .int 0, .int 1, .int 0, .ref k_kind, .ref k_from, .ref k_to, .ref k_width, .ref k_ones, .ref k_unknown, .ref k_signed, .int 0, .long 0, .long 0, .long 0, .int 0, .int 0])), (k_kind, .inl (cA_kind, 32800, .inl (upd g_kind 0 0))), (k_from, .inl (cA_from, 32800, .inl (upd g_from 0 0))), (k_to, .inl (cA_to, 32800, .inl (upd g_to 0 0)))] [(cA_kind, .int), (cA_from, .int), (cA_to, .int)] H _ := I
  refine lv_aload_n hx hb d27_Tre_read_14 rfl (lv_at hl 0 rfl) ?_
  refine lv_iconst (v := 0) hx hb d27_Tre_read_15 (by decide) ?_
  refine q_put t_Tre t_Tre_ok n_Tre C I 0 13 rfl rfl i_Tre (by decide) m27_57 rfl rfl rfl (Nat.le_of_ble_eq_true rfl) d27_Tre_read_16 (fun H locs I => ?_)
  have I : q_I D q_cl _ s [(t0, .inr (14, [.ref t_cut, .ref t_sort, .ref t_a, .ref t_b, .ref t_c, .ref t_d, .ref t_next, .ref t_token, .ref t_low, .ref t_first, .int 0, .int 0, .int 0, .int 0, .ref t_wrong])), (t_wrong, .inr (16, [vv0, vv1, vv2, vv3, vv4, .int 0, .int 0, vv7])), (t_cut, .inr (15, [.ref k_text, .int 0, .int 1, .int 0, .ref k_kind, .ref k_from, .ref k_to, .ref k_width, .ref k_ones, .ref k_unknown, .ref k_signed, .int 0, .long 0, .long 0, .long 0, .int 0, .int 0])), (k_kind, .inl (cA_kind, 32800, .inl (upd g_kind 0 0))), (k_from, .inl (cA_from, 32800, .inl (upd g_from 0 0))), (k_to, .inl (cA_to, 32800, .inl (upd g_to 0 0)))] [(cA_kind, .int), (cA_from, .int), (cA_to, .int)] H _ := I
  refine lv_aload_n hx hb d27_Tre_read_19 rfl (lv_at hl 0 rfl) ?_
  refine lv_iconst (v := 0) hx hb d27_Tre_read_20 (by decide) ?_
  refine q_put t_Tre t_Tre_ok n_Tre C I 0 10 rfl rfl i_Tre (by decide) m27_58 rfl rfl rfl (Nat.le_of_ble_eq_true rfl) d27_Tre_read_21 (fun H locs I => ?_)
  have I : q_I D q_cl _ s [(t0, .inr (14, [.ref t_cut, .ref t_sort, .ref t_a, .ref t_b, .ref t_c, .ref t_d, .ref t_next, .ref t_token, .ref t_low, .ref t_first, .int 0, .int 0, .int 0, .int 0, .ref t_wrong])), (t_wrong, .inr (16, [vv0, vv1, vv2, vv3, vv4, .int 0, .int 0, vv7])), (t_cut, .inr (15, [.ref k_text, .int 0, .int 1, .int 0, .ref k_kind, .ref k_from, .ref k_to, .ref k_width, .ref k_ones, .ref k_unknown, .ref k_signed, .int 0, .long 0, .long 0, .long 0, .int 0, .int 0])), (k_kind, .inl (cA_kind, 32800, .inl (upd g_kind 0 0))), (k_from, .inl (cA_from, 32800, .inl (upd g_from 0 0))), (k_to, .inl (cA_to, 32800, .inl (upd g_to 0 0)))] [(cA_kind, .int), (cA_from, .int), (cA_to, .int)] H _ := I
  refine lv_aload_n hx hb d27_Tre_read_24 rfl (lv_at hl 0 rfl) ?_
  refine lv_iconst (v := -1) hx hb d27_Tre_read_25 (by decide) ?_
  refine q_put t_Tre t_Tre_ok n_Tre C I 0 11 rfl rfl i_Tre (by decide) m27_59 rfl rfl rfl (Nat.le_of_ble_eq_true rfl) d27_Tre_read_26 (fun H locs I => ?_)
  have I : q_I D q_cl _ s [(t0, .inr (14, [.ref t_cut, .ref t_sort, .ref t_a, .ref t_b, .ref t_c, .ref t_d, .ref t_next, .ref t_token, .ref t_low, .ref t_first, .int 0, .int (-1), .int 0, .int 0, .ref t_wrong])), (t_wrong, .inr (16, [vv0, vv1, vv2, vv3, vv4, .int 0, .int 0, vv7])), (t_cut, .inr (15, [.ref k_text, .int 0, .int 1, .int 0, .ref k_kind, .ref k_from, .ref k_to, .ref k_width, .ref k_ones, .ref k_unknown, .ref k_signed, .int 0, .long 0, .long 0, .long 0, .int 0, .int 0])), (k_kind, .inl (cA_kind, 32800, .inl (upd g_kind 0 0))), (k_from, .inl (cA_from, 32800, .inl (upd g_from 0 0))), (k_to, .inl (cA_to, 32800, .inl (upd g_to 0 0)))] [(cA_kind, .int), (cA_from, .int), (cA_to, .int)] H _ := I
  refine lv_iconst (v := -1) hx hb d27_Tre_read_29 (by decide) ?_
  refine lv_istore_n (lv' := [(3, .int (-1)), (0, .ref t0), (1, .ref bb), (2, .int 0)]) hx hb d27_Tre_read_30 rfl hl (by decide) rfl (fun ls hl => ?_)
  refine lv_aload_n hx hb d27_Tre_read_31 rfl (lv_at hl 1 rfl) ?_
  refine q_go (wr := [(k_to, .inl (cA_to, 32800, .inl (upd g_to 0 0)))]) (tyr := [(cA_to, .int)]) C I (q_siteV (As := []) (rest := []) (q0 := 0) C I rfl rfl m27_60 m27_62 m27_63 m27_61 ⟨by decide, by decide⟩ (Eq.trans (b := some 0) (by decide +kernel) rfl) rfl d27_Tre_read_32) (c_Tre_module l D t0 t_cut t_sort t_a t_b t_c t_d t_next t_token t_low t_first t_wrong k_text k_kind k_from k_to k_width k_ones k_unknown k_signed cA_kind g_kind cA_from g_from vv0 vv1 vv2 vv3 vv4 vv7) m27_61 m27_31 [0, 2, 3, 4, 1] [5] [0, 1] [2] rfl rfl (by decide) (by decide) (by decide) rfl rfl hl.1 d27_Tre_read_32 (Nat.le_of_ble_eq_true rfl) (Nat.le_of_ble_eq_true rfl) (Nat.le_of_ble_eq_true rfl) (Nat.le_of_ble_eq_true rfl) (fun v w ty H locs hp I => by obtain ⟨hv, -⟩ := hp; cases hv) (fun E w ty H locs q ce hp I hce hcv hcl hX => ?_)
  obtain ⟨hv, rfl, rfl⟩ := hp
  cases hv
  obtain rfl : t_wrong = q := hX _ _ rfl
  have I : q_I D q_cl _ s [(k_to, .inl (cA_to, 32800, .inl (upd g_to 0 0))), (t_wrong, .inr (16, [vv0, vv1, vv2, vv3, vv4, .int 1, .int 0, vv7]))] [(cA_to, .int)] H _ := I
  exact q_out C hex (q_pick I [1] [] rfl (by decide) rfl) ⟨rfl, rfl, rfl⟩ hce hcv hcl (fun x fs h => by cases h; rfl) (Nat.le_of_ble_eq_true rfl) (Nat.le_of_ble_eq_true rfl)
set_option maxHeartbeats 4000000 in
set_option maxRecDepth 100000 in
/-- build() of an empty INPUT: thrown() is 1 -/
theorem c_Mod_build (l : Launch) (D : va_G) (h0 : Nat) (m_input : Nat) (m_tree : Nat) (m_other : Nat) (m_now : Nat) (m_spare : Nat) (m_circuit : Nat) (m_old : Nat) (t_cut : Nat) (t_sort : Nat) (t_a : Nat) (t_b : Nat) (t_c : Nat) (t_d : Nat) (t_next : Nat) (t_token : Nat) (t_low : Nat) (t_first : Nat) (t_wrong : Nat) (k_text : Nat) (k_kind : Nat) (k_from : Nat) (k_to : Nat) (k_width : Nat) (k_ones : Nat) (k_unknown : Nat) (k_signed : Nat) (cA_kind : ClassId) (g_kind : Nat → Int32) (cA_from : ClassId) (g_from : Nat → Int32) (cA_to : ClassId) (g_to : Nat → Int32) (vv0 : Value) (vv1 : Value) (vv2 : Value) (vv3 : Value) (vv4 : Value) (vv7 : Value) : q_Met l ⟨"SignalTheatreModel", "build", "()I"⟩ (Cond.codeWith ⟨"SignalTheatreModel", "build", "()I"⟩ prog_15_method_6_code 4 (some .int) [(15, 38, 41, 58)]) { frames := 6, cells := 0, slots := 0, locals := 86 } D q_cl [.ref h0] [(h0, .inr (13, [.ref m_input, .int 0, .int 0, .int 0, .int (-1), .ref m_tree, .ref m_other, .ref m_now, .ref m_spare, .ref m_circuit, .ref m_old])), (m_spare, .inr (14, [.ref t_cut, .ref t_sort, .ref t_a, .ref t_b, .ref t_c, .ref t_d, .ref t_next, .ref t_token, .ref t_low, .ref t_first, .int 0, .int 0, .int 0, .int 0, .ref t_wrong])), (t_cut, .inr (15, [.ref k_text, .int 0, .int 0, .int 0, .ref k_kind, .ref k_from, .ref k_to, .ref k_width, .ref k_ones, .ref k_unknown, .ref k_signed, .int 0, .long 0, .long 0, .long 0, .int 0, .int 0])), (k_kind, .inl (cA_kind, 32800, .inl g_kind)), (k_from, .inl (cA_from, 32800, .inl g_from)), (k_to, .inl (cA_to, 32800, .inl g_to)), (t_wrong, .inr (16, [vv0, vv1, vv2, vv3, vv4, .int 0, .int 0, vv7]))] [(cA_kind, .int), (cA_from, .int), (cA_to, .int)] (fun r w ty => ∃ (fs : List Value) (z : Int32), r = .inl (some (.int z)) ∧ w = [(h0, .inr (13, fs))] ∧ ty = [] ∧ q_ag (.inr "java/lang/IllegalStateException") (1) fs[2]? (some (.int z))) := by
  refine q_ofWH (by decide) ?_
  intro p e s m below meth c C hr hex I
  have hx := C.1
  have hb := C.2.1
  have hl := lv_entry ([.ref h0]) (n := 4) (Nat.le_of_ble_eq_true rfl)
  rw [lg_entry_eq]
  generalize (lg_sl ([.ref h0]) ++ List.replicate (4 - (lg_sl ([.ref h0])).length) Slot.unset).toArray = ls at hl ⊢
  have hl : lv_has ls 4 [(0, .ref h0)] := hl
  refine lv_aload_n hx hb d27_Mod_build_0 rfl (lv_at hl 0 rfl) ?_
  refine lv_iconst (v := 0) hx hb d27_Mod_build_1 (by decide) ?_
  refine q_put t_Mod t_Mod_ok n_Mod C I 0 2 rfl rfl i_Mod (by decide) m27_64 rfl rfl rfl (Nat.le_of_ble_eq_true rfl) d27_Mod_build_2 (fun H locs I => ?_)
  have I : q_I D q_cl _ s [(h0, .inr (13, [.ref m_input, .int 0, .int 0, .int 0, .int (-1), .ref m_tree, .ref m_other, .ref m_now, .ref m_spare, .ref m_circuit, .ref m_old])), (m_spare, .inr (14, [.ref t_cut, .ref t_sort, .ref t_a, .ref t_b, .ref t_c, .ref t_d, .ref t_next, .ref t_token, .ref t_low, .ref t_first, .int 0, .int 0, .int 0, .int 0, .ref t_wrong])), (t_cut, .inr (15, [.ref k_text, .int 0, .int 0, .int 0, .ref k_kind, .ref k_from, .ref k_to, .ref k_width, .ref k_ones, .ref k_unknown, .ref k_signed, .int 0, .long 0, .long 0, .long 0, .int 0, .int 0])), (k_kind, .inl (cA_kind, 32800, .inl g_kind)), (k_from, .inl (cA_from, 32800, .inl g_from)), (k_to, .inl (cA_to, 32800, .inl g_to)), (t_wrong, .inr (16, [vv0, vv1, vv2, vv3, vv4, .int 0, .int 0, vv7]))] [(cA_kind, .int), (cA_from, .int), (cA_to, .int)] H _ := I
  refine lv_aload_n hx hb d27_Mod_build_5 rfl (lv_at hl 0 rfl) ?_
  refine q_get C I 0 1 rfl rfl i_Mod (by decide) m27_65 rfl d27_Mod_build_6 ?_
  refine lv_istore_n (lv' := [(1, .int 0), (0, .ref h0)]) hx hb d27_Mod_build_9 rfl hl (by decide) rfl (fun ls hl => ?_)
  refine lv_aload_n hx hb d27_Mod_build_10 rfl (lv_at hl 1 rfl) ?_
  refine lv_iconst (v := 0) hx hb d27_Mod_build_11 (by decide) ?_
  refine q_put t_Mod t_Mod_ok n_Mod C I 0 1 rfl rfl i_Mod (by decide) m27_65 rfl rfl rfl (Nat.le_of_ble_eq_true rfl) d27_Mod_build_12 (fun H locs I => ?_)
  have I : q_I D q_cl _ s [(h0, .inr (13, [.ref m_input, .int 0, .int 0, .int 0, .int (-1), .ref m_tree, .ref m_other, .ref m_now, .ref m_spare, .ref m_circuit, .ref m_old])), (m_spare, .inr (14, [.ref t_cut, .ref t_sort, .ref t_a, .ref t_b, .ref t_c, .ref t_d, .ref t_next, .ref t_token, .ref t_low, .ref t_first, .int 0, .int 0, .int 0, .int 0, .ref t_wrong])), (t_cut, .inr (15, [.ref k_text, .int 0, .int 0, .int 0, .ref k_kind, .ref k_from, .ref k_to, .ref k_width, .ref k_ones, .ref k_unknown, .ref k_signed, .int 0, .long 0, .long 0, .long 0, .int 0, .int 0])), (k_kind, .inl (cA_kind, 32800, .inl g_kind)), (k_from, .inl (cA_from, 32800, .inl g_from)), (k_to, .inl (cA_to, 32800, .inl g_to)), (t_wrong, .inr (16, [vv0, vv1, vv2, vv3, vv4, .int 0, .int 0, vv7]))] [(cA_kind, .int), (cA_from, .int), (cA_to, .int)] H _ := I
  refine lv_aload_n hx hb d27_Mod_build_15 rfl (lv_at hl 1 rfl) ?_
  refine q_get C I 0 8 rfl rfl i_Mod (by decide) m27_66 rfl d27_Mod_build_16 ?_
  refine lv_aload_n hx hb d27_Mod_build_19 rfl (lv_at hl 1 rfl) ?_
  refine q_get C I 0 0 rfl rfl i_Mod (by decide) m27_67 rfl d27_Mod_build_20 ?_
  refine lv_iload_n hx hb d27_Mod_build_23 rfl (lv_at hl 0 rfl) ?_
  refine q_go (wr := [(h0, .inr (13, [.ref m_input, .int 0, .int 0, .int 0, .int (-1), .ref m_tree, .ref m_other, .ref m_now, .ref m_spare, .ref m_circuit, .ref m_old]))]) (tyr := []) C I (q_siteV (As := [.ref m_input, .int 0]) (rest := []) (q0 := 1) C I rfl rfl m27_68 m27_70 m27_71 m27_69 ⟨by decide, by decide⟩ (Eq.trans (b := some 2) (by decide +kernel) rfl) rfl d27_Mod_build_24) (c_Tre_read l D m_spare m_input t_cut t_sort t_a t_b t_c t_d t_next t_token t_low t_first t_wrong k_text k_kind k_from k_to k_width k_ones k_unknown k_signed cA_kind g_kind cA_from g_from cA_to g_to vv0 vv1 vv2 vv3 vv4 vv7) m27_69 m27_31 [1, 2, 3, 4, 5, 6] [0] [0, 1, 2] [] rfl rfl (by decide) (by decide) (by decide) rfl rfl hl.1 d27_Mod_build_24 (Nat.le_of_ble_eq_true rfl) (Nat.le_of_ble_eq_true rfl) (Nat.le_of_ble_eq_true rfl) (Nat.le_of_ble_eq_true rfl) (fun v w ty H locs hp I => by obtain ⟨hv, -⟩ := hp; cases hv) (fun E w ty H locs q ce hp I hce hcv hcl hX => ?_)
  obtain ⟨hv, rfl, rfl⟩ := hp
  cases hv
  obtain rfl : t_wrong = q := hX _ _ rfl
  have I : q_I D q_cl _ s [(h0, .inr (13, [.ref m_input, .int 0, .int 0, .int 0, .int (-1), .ref m_tree, .ref m_other, .ref m_now, .ref m_spare, .ref m_circuit, .ref m_old])), (t_wrong, .inr (16, [vv0, vv1, vv2, vv3, vv4, .int 1, .int 0, vv7]))] [] H _ := I
  refine q_catch C [] { startPc := 15, endPc := 38, handlerPc := 41, catchType := 58 } [] (q_tab1 hex) (fun z hz => nomatch hz) (by decide) (by decide) m27_72 m27_73 hce hcv hcl ?_
  show W _ _ _ _ _ _ _ _ _ _ _ _ _ _ _ (F0 m 41 ls [.ref t_wrong])
  refine lv_astore_n (lv' := [(2, .ref t_wrong), (1, .int 0), (0, .ref h0)]) hx hb d27_Mod_build_41 rfl hl (by decide) rfl (fun ls hl => ?_)
  refine lv_aload_n hx hb d27_Mod_build_42 rfl (lv_at hl 2 rfl) ?_
  refine lv_aload_n hx hb d27_Mod_build_43 rfl (lv_at hl 0 rfl) ?_
  refine q_get C I 1 5 rfl rfl i_Wro (by decide) m27_74 rfl d27_Mod_build_44 ?_
  refine q_put t_Mod t_Mod_ok n_Mod C I 0 3 rfl rfl i_Mod (by decide) m27_75 rfl rfl rfl (Nat.le_of_ble_eq_true rfl) d27_Mod_build_47 (fun H locs I => ?_)
  have I : q_I D q_cl _ s [(h0, .inr (13, [.ref m_input, .int 0, .int 0, .int 1, .int (-1), .ref m_tree, .ref m_other, .ref m_now, .ref m_spare, .ref m_circuit, .ref m_old])), (t_wrong, .inr (16, [vv0, vv1, vv2, vv3, vv4, .int 1, .int 0, vv7]))] [] H _ := I
  refine lv_aload_n hx hb d27_Mod_build_50 rfl (lv_at hl 2 rfl) ?_
  refine lv_aload_n hx hb d27_Mod_build_51 rfl (lv_at hl 0 rfl) ?_
  refine q_get C I 1 6 rfl rfl i_Wro (by decide) m27_76 rfl d27_Mod_build_52 ?_
  refine q_put t_Mod t_Mod_ok n_Mod C I 0 4 rfl rfl i_Mod (by decide) m27_77 rfl rfl rfl (Nat.le_of_ble_eq_true rfl) d27_Mod_build_55 (fun H locs I => ?_)
  have I : q_I D q_cl _ s [(h0, .inr (13, [.ref m_input, .int 0, .int 0, .int 1, .int 0, .ref m_tree, .ref m_other, .ref m_now, .ref m_spare, .ref m_circuit, .ref m_old])), (t_wrong, .inr (16, [vv0, vv1, vv2, vv3, vv4, .int 1, .int 0, vv7]))] [] H _ := I
  refine lv_aload_n hx hb d27_Mod_build_58 rfl (lv_at hl 2 rfl) ?_
  refine lv_iconst (v := 1) hx hb d27_Mod_build_59 (by decide) ?_
  refine q_put t_Mod t_Mod_ok n_Mod C I 0 2 rfl rfl i_Mod (by decide) m27_64 rfl rfl rfl (Nat.le_of_ble_eq_true rfl) d27_Mod_build_60 (fun H locs I => ?_)
  have I : q_I D q_cl _ s [(h0, .inr (13, [.ref m_input, .int 0, .int 1, .int 1, .int 0, .ref m_tree, .ref m_other, .ref m_now, .ref m_spare, .ref m_circuit, .ref m_old])), (t_wrong, .inr (16, [vv0, vv1, vv2, vv3, vv4, .int 1, .int 0, vv7]))] [] H _ := I
  refine lv_iconst (v := 0) hx hb d27_Mod_build_63 (by decide) ?_
  have I : q_I D q_cl _ s [(h0, .inr (13, [.ref m_input, .int 0, .int 1, .int 1, .int 0, .ref m_tree, .ref m_other, .ref m_now, .ref m_spare, .ref m_circuit, .ref m_old]))] [] _ _ := q_pick I [0] [] rfl (by decide) rfl
  exact q_iret C hr I ⟨_, _, rfl, rfl, rfl, rfl⟩ (Nat.le_of_ble_eq_true rfl) (Nat.le_of_ble_eq_true rfl) d27_Mod_build_64
