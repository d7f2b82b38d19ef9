set_option maxRecDepth 20000 in
theorem m31_0 : (Cond.methodLink "SignalTheatreLaw" 57 ⟨"SignalTheatreLaw", "feed", "(LSignalTheatre;IIIII[J)I"⟩ : Cond) ∈ q_big := q_m4 (List.mem_of_getElem? (i := 128) rfl) rfl
set_option maxRecDepth 20000 in
theorem m31_1 : (Cond.codeWith ⟨"SignalTheatreLaw", "feed", "(LSignalTheatre;IIIII[J)I"⟩ method_3_code 8 (Option.some FieldType.int) [(0, 16, 19, 13)] : Cond) ∈ q_big := q_m4 (List.mem_of_getElem? (i := 130) rfl) rfl
set_option maxRecDepth 20000 in
theorem m31_2 : (Cond.static ⟨"SignalTheatreLaw", "feed", "(LSignalTheatre;IIIII[J)I"⟩ : Cond) ∈ q_big := q_m4 (List.mem_of_getElem? (i := 129) rfl) rfl
set_option maxRecDepth 20000 in
theorem m31_3 : (Cond.initialized "SignalTheatreLaw" : Cond) ∈ q_big := q_m1 (List.mem_of_getElem? (i := 0) rfl) rfl
set_option maxRecDepth 20000 in
theorem m31_4 : (Cond.methodLink "SignalTheatreLaw" 62 ⟨"SignalTheatreModel", "feed", "(IIIII)I"⟩ : Cond) ∈ q_big := q_m13 (List.mem_of_getElem? (i := 206) rfl) rfl
set_option maxRecDepth 20000 in
theorem m31_5 : (Cond.code ⟨"SignalTheatreModel", "feed", "(IIIII)I"⟩ prog_15_method_4_code 8 (Option.some FieldType.int) : Cond) ∈ q_big := q_m13 (List.mem_of_getElem? (i := 209) rfl) rfl
set_option maxRecDepth 20000 in
theorem m31_6 : (Cond.instanceMethod ⟨"SignalTheatreModel", "feed", "(IIIII)I"⟩ : Cond) ∈ q_big := q_m13 (List.mem_of_getElem? (i := 207) rfl) rfl
set_option maxRecDepth 20000 in
theorem m31_7 : (Cond.selects "SignalTheatreModel" ⟨"SignalTheatreModel", "feed", "(IIIII)I"⟩ ⟨"SignalTheatreModel", "feed", "(IIIII)I"⟩ : Cond) ∈ q_big := q_m13 (List.mem_of_getElem? (i := 208) rfl) rfl
set_option maxRecDepth 20000 in
theorem m31_8 : (Cond.initialized "SignalTheatreModel" : Cond) ∈ q_big := q_m1 (List.mem_of_getElem? (i := 14) rfl) rfl
set_option maxRecDepth 20000 in
theorem m31_9 : (Cond.methodLink "SignalTheatreLaw" 63 ⟨"SignalTheatreModel", "thrown", "()I"⟩ : Cond) ∈ q_big := q_m13 (List.mem_of_getElem? (i := 202) rfl) rfl
set_option maxRecDepth 20000 in
theorem m31_10 : (Cond.code ⟨"SignalTheatreModel", "thrown", "()I"⟩ prog_15_method_2_code 1 (Option.some FieldType.int) : Cond) ∈ q_big := q_m13 (List.mem_of_getElem? (i := 205) rfl) rfl
set_option maxRecDepth 20000 in
theorem m31_11 : (Cond.instanceMethod ⟨"SignalTheatreModel", "thrown", "()I"⟩ : Cond) ∈ q_big := q_m13 (List.mem_of_getElem? (i := 203) rfl) rfl
set_option maxRecDepth 20000 in
theorem m31_12 : (Cond.selects "SignalTheatreModel" ⟨"SignalTheatreModel", "thrown", "()I"⟩ ⟨"SignalTheatreModel", "thrown", "()I"⟩ : Cond) ∈ q_big := q_m13 (List.mem_of_getElem? (i := 204) rfl) rfl
set_option maxRecDepth 20000 in
theorem m31_13 : (Cond.methodLink "SignalTheatreLaw" 66 ⟨"SignalTheatreLaw", "end", "(LSignalTheatre;I[J)I"⟩ : Cond) ∈ q_big := q_m4 (List.mem_of_getElem? (i := 207) rfl) rfl
set_option maxRecDepth 20000 in
theorem m31_14 : (Cond.codeWith ⟨"SignalTheatreLaw", "end", "(LSignalTheatre;I[J)I"⟩ method_4_code 4 (Option.some FieldType.int) [(0, 9, 12, 19)] : Cond) ∈ q_big := q_m4 (List.mem_of_getElem? (i := 209) rfl) rfl
set_option maxRecDepth 20000 in
theorem m31_15 : (Cond.static ⟨"SignalTheatreLaw", "end", "(LSignalTheatre;I[J)I"⟩ : Cond) ∈ q_big := q_m4 (List.mem_of_getElem? (i := 208) rfl) rfl
set_option maxRecDepth 20000 in
theorem m31_16 : (Cond.methodLink "SignalTheatreLaw" 69 ⟨"SignalTheatreModel", "end", "(I)I"⟩ : Cond) ∈ q_big := q_m13 (List.mem_of_getElem? (i := 210) rfl) rfl
set_option maxRecDepth 20000 in
theorem m31_17 : (Cond.code ⟨"SignalTheatreModel", "end", "(I)I"⟩ prog_15_method_5_code 2 (Option.some FieldType.int) : Cond) ∈ q_big := q_m13 (List.mem_of_getElem? (i := 213) rfl) rfl
set_option maxRecDepth 20000 in
theorem m31_18 : (Cond.instanceMethod ⟨"SignalTheatreModel", "end", "(I)I"⟩ : Cond) ∈ q_big := q_m13 (List.mem_of_getElem? (i := 211) rfl) rfl
set_option maxRecDepth 20000 in
theorem m31_19 : (Cond.selects "SignalTheatreModel" ⟨"SignalTheatreModel", "end", "(I)I"⟩ ⟨"SignalTheatreModel", "end", "(I)I"⟩ : Cond) ∈ q_big := q_m13 (List.mem_of_getElem? (i := 212) rfl) rfl
set_option maxRecDepth 20000 in
theorem m31_20 : (Cond.methodLink "SignalTheatreLaw" 70 ⟨"SignalTheatreLaw", "build", "(LSignalTheatre;[J)I"⟩ : Cond) ∈ q_big := q_m4 (List.mem_of_getElem? (i := 230) rfl) rfl
set_option maxRecDepth 20000 in
theorem m31_21 : (Cond.codeWith ⟨"SignalTheatreLaw", "build", "(LSignalTheatre;[J)I"⟩ method_5_code 3 (Option.some FieldType.int) [(0, 8, 11, 25)] : Cond) ∈ q_big := q_m4 (List.mem_of_getElem? (i := 232) rfl) rfl
set_option maxRecDepth 20000 in
theorem m31_22 : (Cond.static ⟨"SignalTheatreLaw", "build", "(LSignalTheatre;[J)I"⟩ : Cond) ∈ q_big := q_m4 (List.mem_of_getElem? (i := 231) rfl) rfl
set_option maxRecDepth 20000 in
theorem m31_23 : (Cond.methodLink "SignalTheatreLaw" 73 ⟨"SignalTheatreModel", "build", "()I"⟩ : Cond) ∈ q_big := q_m13 (List.mem_of_getElem? (i := 214) rfl) rfl
set_option maxRecDepth 20000 in
theorem m31_24 : (Cond.codeWith ⟨"SignalTheatreModel", "build", "()I"⟩ prog_15_method_6_code 4 (Option.some FieldType.int) [(15, 38, 41, 58)] : Cond) ∈ q_big := q_m13 (List.mem_of_getElem? (i := 217) rfl) rfl
set_option maxRecDepth 20000 in
theorem m31_25 : (Cond.instanceMethod ⟨"SignalTheatreModel", "build", "()I"⟩ : Cond) ∈ q_big := q_m13 (List.mem_of_getElem? (i := 215) rfl) rfl
set_option maxRecDepth 20000 in
theorem m31_26 : (Cond.selects "SignalTheatreModel" ⟨"SignalTheatreModel", "build", "()I"⟩ ⟨"SignalTheatreModel", "build", "()I"⟩ : Cond) ∈ q_big := q_m13 (List.mem_of_getElem? (i := 216) rfl) rfl
set_option maxRecDepth 20000 in
theorem m31_27 : (Cond.methodLink "SignalTheatreLaw" 74 ⟨"SignalTheatreLaw", "fault", "(LSignalTheatre;I[J)I"⟩ : Cond) ∈ q_big := q_m10 (List.mem_of_getElem? (i := 41) rfl) rfl
set_option maxRecDepth 20000 in
theorem m31_28 : (Cond.codeWith ⟨"SignalTheatreLaw", "fault", "(LSignalTheatre;I[J)I"⟩ method_6_code 4 (Option.some FieldType.int) [(0, 9, 12, 19)] : Cond) ∈ q_big := q_m10 (List.mem_of_getElem? (i := 43) rfl) rfl
set_option maxRecDepth 20000 in
theorem m31_29 : (Cond.static ⟨"SignalTheatreLaw", "fault", "(LSignalTheatre;I[J)I"⟩ : Cond) ∈ q_big := q_m10 (List.mem_of_getElem? (i := 42) rfl) rfl
set_option maxRecDepth 20000 in
theorem m31_30 : (Cond.methodLink "SignalTheatreLaw" 76 ⟨"SignalTheatreModel", "fault", "(I)I"⟩ : Cond) ∈ q_big := q_m16 (List.mem_of_getElem? (i := 151) rfl) rfl
set_option maxRecDepth 20000 in
theorem m31_31 : (Cond.code ⟨"SignalTheatreModel", "fault", "(I)I"⟩ prog_15_method_7_code 2 (Option.some FieldType.int) : Cond) ∈ q_big := q_m16 (List.mem_of_getElem? (i := 154) rfl) rfl
set_option maxRecDepth 20000 in
theorem m31_32 : (Cond.instanceMethod ⟨"SignalTheatreModel", "fault", "(I)I"⟩ : Cond) ∈ q_big := q_m16 (List.mem_of_getElem? (i := 152) rfl) rfl
set_option maxRecDepth 20000 in
theorem m31_33 : (Cond.selects "SignalTheatreModel" ⟨"SignalTheatreModel", "fault", "(I)I"⟩ ⟨"SignalTheatreModel", "fault", "(I)I"⟩ : Cond) ∈ q_big := q_m16 (List.mem_of_getElem? (i := 153) rfl) rfl
set_option maxRecDepth 20000 in
theorem m31_34 : (Cond.methodLink "SignalTheatreLaw" 77 ⟨"SignalTheatreLaw", "run", "(LSignalTheatre;I[J)I"⟩ : Cond) ∈ q_big := q_m10 (List.mem_of_getElem? (i := 48) rfl) rfl
set_option maxRecDepth 20000 in
theorem m31_35 : (Cond.codeWith ⟨"SignalTheatreLaw", "run", "(LSignalTheatre;I[J)I"⟩ method_7_code 4 (Option.some FieldType.int) [(0, 9, 12, 19), (0, 9, 15, 25)] : Cond) ∈ q_big := q_m10 (List.mem_of_getElem? (i := 50) rfl) rfl
set_option maxRecDepth 20000 in
theorem m31_36 : (Cond.static ⟨"SignalTheatreLaw", "run", "(LSignalTheatre;I[J)I"⟩ : Cond) ∈ q_big := q_m10 (List.mem_of_getElem? (i := 49) rfl) rfl
set_option maxRecDepth 20000 in
theorem m31_37 : (Cond.methodLink "SignalTheatreLaw" 79 ⟨"SignalTheatreModel", "run", "(I)I"⟩ : Cond) ∈ q_big := q_m16 (List.mem_of_getElem? (i := 155) rfl) rfl
set_option maxRecDepth 20000 in
theorem m31_38 : (Cond.code ⟨"SignalTheatreModel", "run", "(I)I"⟩ prog_15_method_8_code 2 (Option.some FieldType.int) : Cond) ∈ q_big := q_m16 (List.mem_of_getElem? (i := 158) rfl) rfl
set_option maxRecDepth 20000 in
theorem m31_39 : (Cond.instanceMethod ⟨"SignalTheatreModel", "run", "(I)I"⟩ : Cond) ∈ q_big := q_m16 (List.mem_of_getElem? (i := 156) rfl) rfl
set_option maxRecDepth 20000 in
theorem m31_40 : (Cond.selects "SignalTheatreModel" ⟨"SignalTheatreModel", "run", "(I)I"⟩ ⟨"SignalTheatreModel", "run", "(I)I"⟩ : Cond) ∈ q_big := q_m16 (List.mem_of_getElem? (i := 157) rfl) rfl
set_option maxRecDepth 20000 in
theorem m31_41 : (Cond.methodLink "SignalTheatreLaw" 80 ⟨"SignalTheatreLaw", "value", "(LSignalTheatre;III[J)I"⟩ : Cond) ∈ q_big := q_m11 (List.mem_of_getElem? (i := 39) rfl) rfl
set_option maxRecDepth 20000 in
theorem m31_42 : (Cond.codeWith ⟨"SignalTheatreLaw", "value", "(LSignalTheatre;III[J)I"⟩ method_8_code 6 (Option.some FieldType.int) [(0, 11, 14, 19), (0, 11, 18, 37)] : Cond) ∈ q_big := q_m11 (List.mem_of_getElem? (i := 41) rfl) rfl
set_option maxRecDepth 20000 in
theorem m31_43 : (Cond.static ⟨"SignalTheatreLaw", "value", "(LSignalTheatre;III[J)I"⟩ : Cond) ∈ q_big := q_m11 (List.mem_of_getElem? (i := 40) rfl) rfl
set_option maxRecDepth 20000 in
theorem m31_44 : (Cond.methodLink "SignalTheatreLaw" 83 ⟨"SignalTheatreModel", "value", "(III)J"⟩ : Cond) ∈ q_big := q_m17 (List.mem_of_getElem? (i := 109) rfl) rfl
set_option maxRecDepth 20000 in
theorem m31_45 : (Cond.code ⟨"SignalTheatreModel", "value", "(III)J"⟩ prog_15_method_10_code 4 (Option.some FieldType.long) : Cond) ∈ q_big := q_m17 (List.mem_of_getElem? (i := 112) rfl) rfl
set_option maxRecDepth 20000 in
theorem m31_46 : (Cond.instanceMethod ⟨"SignalTheatreModel", "value", "(III)J"⟩ : Cond) ∈ q_big := q_m17 (List.mem_of_getElem? (i := 110) rfl) rfl
set_option maxRecDepth 20000 in
theorem m31_47 : (Cond.selects "SignalTheatreModel" ⟨"SignalTheatreModel", "value", "(III)J"⟩ ⟨"SignalTheatreModel", "value", "(III)J"⟩ : Cond) ∈ q_big := q_m17 (List.mem_of_getElem? (i := 111) rfl) rfl
set_option maxRecDepth 20000 in
theorem m31_48 : (Cond.constantLong "SignalTheatreLaw" 84 (4294967295) : Cond) ∈ q_big := q_m17 (List.mem_of_getElem? (i := 168) rfl) rfl
set_option maxRecDepth 20000 in
theorem m31_49 : (Cond.methodLink "SignalTheatreLaw" 86 ⟨"SignalTheatreLaw", "set", "(LSignalTheatre;IIJJ)I"⟩ : Cond) ∈ q_big := q_m11 (List.mem_of_getElem? (i := 71) rfl) rfl
set_option maxRecDepth 20000 in
theorem m31_50 : (Cond.codeWith ⟨"SignalTheatreLaw", "set", "(LSignalTheatre;IIJJ)I"⟩ method_9_code 8 (Option.some FieldType.int) [(0, 9, 12, 37)] : Cond) ∈ q_big := q_m11 (List.mem_of_getElem? (i := 73) rfl) rfl
set_option maxRecDepth 20000 in
theorem m31_51 : (Cond.static ⟨"SignalTheatreLaw", "set", "(LSignalTheatre;IIJJ)I"⟩ : Cond) ∈ q_big := q_m11 (List.mem_of_getElem? (i := 72) rfl) rfl
set_option maxRecDepth 20000 in
theorem m31_52 : (Cond.methodLink "SignalTheatreLaw" 89 ⟨"SignalTheatreModel", "set", "(IIJJ)V"⟩ : Cond) ∈ q_big := q_m17 (List.mem_of_getElem? (i := 121) rfl) rfl
set_option maxRecDepth 20000 in
theorem m31_53 : (Cond.code ⟨"SignalTheatreModel", "set", "(IIJJ)V"⟩ prog_15_method_11_code 7 none : Cond) ∈ q_big := q_m17 (List.mem_of_getElem? (i := 124) rfl) rfl
set_option maxRecDepth 20000 in
theorem m31_54 : (Cond.instanceMethod ⟨"SignalTheatreModel", "set", "(IIJJ)V"⟩ : Cond) ∈ q_big := q_m17 (List.mem_of_getElem? (i := 122) rfl) rfl
set_option maxRecDepth 20000 in
theorem m31_55 : (Cond.selects "SignalTheatreModel" ⟨"SignalTheatreModel", "set", "(IIJJ)V"⟩ ⟨"SignalTheatreModel", "set", "(IIJJ)V"⟩ : Cond) ∈ q_big := q_m17 (List.mem_of_getElem? (i := 123) rfl) rfl
set_option maxRecDepth 20000 in
theorem m31_56 : (Cond.methodLink "SignalTheatreLaw" 90 ⟨"SignalTheatreLaw", "told", "(LSignalTheatre;II[J)I"⟩ : Cond) ∈ q_big := q_m11 (List.mem_of_getElem? (i := 79) rfl) rfl
set_option maxRecDepth 20000 in
theorem m31_57 : (Cond.codeWith ⟨"SignalTheatreLaw", "told", "(LSignalTheatre;II[J)I"⟩ method_10_code 5 (Option.some FieldType.int) [(0, 10, 13, 19), (0, 10, 17, 37)] : Cond) ∈ q_big := q_m11 (List.mem_of_getElem? (i := 81) rfl) rfl
set_option maxRecDepth 20000 in
theorem m31_58 : (Cond.static ⟨"SignalTheatreLaw", "told", "(LSignalTheatre;II[J)I"⟩ : Cond) ∈ q_big := q_m11 (List.mem_of_getElem? (i := 80) rfl) rfl
set_option maxRecDepth 20000 in
theorem m31_59 : (Cond.methodLink "SignalTheatreLaw" 93 ⟨"SignalTheatreModel", "told", "(II)I"⟩ : Cond) ∈ q_big := q_m17 (List.mem_of_getElem? (i := 127) rfl) rfl
set_option maxRecDepth 20000 in
theorem m31_60 : (Cond.code ⟨"SignalTheatreModel", "told", "(II)I"⟩ prog_15_method_12_code 3 (Option.some FieldType.int) : Cond) ∈ q_big := q_m17 (List.mem_of_getElem? (i := 130) rfl) rfl
set_option maxRecDepth 20000 in
theorem m31_61 : (Cond.instanceMethod ⟨"SignalTheatreModel", "told", "(II)I"⟩ : Cond) ∈ q_big := q_m17 (List.mem_of_getElem? (i := 128) rfl) rfl
set_option maxRecDepth 20000 in
theorem m31_62 : (Cond.selects "SignalTheatreModel" ⟨"SignalTheatreModel", "told", "(II)I"⟩ ⟨"SignalTheatreModel", "told", "(II)I"⟩ : Cond) ∈ q_big := q_m17 (List.mem_of_getElem? (i := 129) rfl) rfl
set_option maxRecDepth 20000 in
theorem m31_63 : (Cond.methodLink "SignalTheatreLaw" 94 ⟨"SignalTheatreLaw", "letter", "(LSignalTheatre;II[J)I"⟩ : Cond) ∈ q_big := q_m11 (List.mem_of_getElem? (i := 90) rfl) rfl
set_option maxRecDepth 20000 in
theorem m31_64 : (Cond.codeWith ⟨"SignalTheatreLaw", "letter", "(LSignalTheatre;II[J)I"⟩ method_11_code 5 (Option.some FieldType.int) [(0, 10, 13, 37)] : Cond) ∈ q_big := q_m11 (List.mem_of_getElem? (i := 92) rfl) rfl
set_option maxRecDepth 20000 in
theorem m31_65 : (Cond.static ⟨"SignalTheatreLaw", "letter", "(LSignalTheatre;II[J)I"⟩ : Cond) ∈ q_big := q_m11 (List.mem_of_getElem? (i := 91) rfl) rfl
set_option maxRecDepth 20000 in
theorem m31_66 : (Cond.methodLink "SignalTheatreLaw" 96 ⟨"SignalTheatreModel", "letter", "(II)I"⟩ : Cond) ∈ q_big := q_m17 (List.mem_of_getElem? (i := 139) rfl) rfl
set_option maxRecDepth 20000 in
theorem m31_67 : (Cond.code ⟨"SignalTheatreModel", "letter", "(II)I"⟩ prog_15_method_13_code 3 (Option.some FieldType.int) : Cond) ∈ q_big := q_m17 (List.mem_of_getElem? (i := 142) rfl) rfl
set_option maxRecDepth 20000 in
theorem m31_68 : (Cond.instanceMethod ⟨"SignalTheatreModel", "letter", "(II)I"⟩ : Cond) ∈ q_big := q_m17 (List.mem_of_getElem? (i := 140) rfl) rfl
set_option maxRecDepth 20000 in
theorem m31_69 : (Cond.selects "SignalTheatreModel" ⟨"SignalTheatreModel", "letter", "(II)I"⟩ ⟨"SignalTheatreModel", "letter", "(II)I"⟩ : Cond) ∈ q_big := q_m17 (List.mem_of_getElem? (i := 141) rfl) rfl
set_option maxRecDepth 20000 in
theorem m31_70 : (Cond.methodLink "SignalTheatreLaw" 97 ⟨"SignalTheatreLaw", "log", "(LSignalTheatre;I[J)I"⟩ : Cond) ∈ q_big := q_m11 (List.mem_of_getElem? (i := 102) rfl) rfl
set_option maxRecDepth 20000 in
theorem m31_71 : (Cond.codeWith ⟨"SignalTheatreLaw", "log", "(LSignalTheatre;I[J)I"⟩ method_12_code 4 (Option.some FieldType.int) [(0, 9, 12, 13)] : Cond) ∈ q_big := q_m11 (List.mem_of_getElem? (i := 104) rfl) rfl
set_option maxRecDepth 20000 in
theorem m31_72 : (Cond.static ⟨"SignalTheatreLaw", "log", "(LSignalTheatre;I[J)I"⟩ : Cond) ∈ q_big := q_m11 (List.mem_of_getElem? (i := 103) rfl) rfl
set_option maxRecDepth 20000 in
theorem m31_73 : (Cond.methodLink "SignalTheatreLaw" 99 ⟨"SignalTheatreModel", "log", "(I)I"⟩ : Cond) ∈ q_big := q_m17 (List.mem_of_getElem? (i := 148) rfl) rfl
set_option maxRecDepth 20000 in
theorem m31_74 : (Cond.code ⟨"SignalTheatreModel", "log", "(I)I"⟩ prog_15_method_14_code 2 (Option.some FieldType.int) : Cond) ∈ q_big := q_m17 (List.mem_of_getElem? (i := 151) rfl) rfl
set_option maxRecDepth 20000 in
theorem m31_75 : (Cond.instanceMethod ⟨"SignalTheatreModel", "log", "(I)I"⟩ : Cond) ∈ q_big := q_m17 (List.mem_of_getElem? (i := 149) rfl) rfl
set_option maxRecDepth 20000 in
theorem m31_76 : (Cond.selects "SignalTheatreModel" ⟨"SignalTheatreModel", "log", "(I)I"⟩ ⟨"SignalTheatreModel", "log", "(I)I"⟩ : Cond) ∈ q_big := q_m17 (List.mem_of_getElem? (i := 150) rfl) rfl
set_option maxRecDepth 20000 in
theorem m31_77 : (Cond.methodLink "SignalTheatreLaw" 100 ⟨"SignalTheatre", "time", "()J"⟩ : Cond) ∈ q_big := q_m4 (List.mem_of_getElem? (i := 116) rfl) rfl
set_option maxRecDepth 20000 in
theorem m31_78 : (Cond.code ⟨"SignalTheatre", "time", "()J"⟩ prog_1_method_13_code 1 (Option.some FieldType.long) : Cond) ∈ q_big := q_m4 (List.mem_of_getElem? (i := 119) rfl) rfl
set_option maxRecDepth 20000 in
theorem m31_79 : (Cond.instanceMethod ⟨"SignalTheatre", "time", "()J"⟩ : Cond) ∈ q_big := q_m4 (List.mem_of_getElem? (i := 117) rfl) rfl
set_option maxRecDepth 20000 in
theorem m31_80 : (Cond.selects "SignalTheatre" ⟨"SignalTheatre", "time", "()J"⟩ ⟨"SignalTheatre", "time", "()J"⟩ : Cond) ∈ q_big := q_m4 (List.mem_of_getElem? (i := 118) rfl) rfl
set_option maxRecDepth 20000 in
theorem m31_81 : (Cond.initialized "SignalTheatre" : Cond) ∈ q_big := q_m1 (List.mem_of_getElem? (i := 1) rfl) rfl
set_option maxRecDepth 20000 in
theorem m31_82 : (Cond.methodLink "SignalTheatreLaw" 104 ⟨"SignalTheatreModel", "time", "()J"⟩ : Cond) ∈ q_big := q_m17 (List.mem_of_getElem? (i := 152) rfl) rfl
set_option maxRecDepth 20000 in
theorem m31_83 : (Cond.code ⟨"SignalTheatreModel", "time", "()J"⟩ prog_15_method_15_code 1 (Option.some FieldType.long) : Cond) ∈ q_big := q_m17 (List.mem_of_getElem? (i := 155) rfl) rfl
set_option maxRecDepth 20000 in
theorem m31_84 : (Cond.instanceMethod ⟨"SignalTheatreModel", "time", "()J"⟩ : Cond) ∈ q_big := q_m17 (List.mem_of_getElem? (i := 153) rfl) rfl
set_option maxRecDepth 20000 in
theorem m31_85 : (Cond.selects "SignalTheatreModel" ⟨"SignalTheatreModel", "time", "()J"⟩ ⟨"SignalTheatreModel", "time", "()J"⟩ : Cond) ∈ q_big := q_m17 (List.mem_of_getElem? (i := 154) rfl) rfl
set_option maxRecDepth 20000 in
theorem m31_86 : (Cond.methodLink "SignalTheatreLaw" 105 ⟨"SignalTheatre", "count", "(I)I"⟩ : Cond) ∈ q_big := q_m4 (List.mem_of_getElem? (i := 120) rfl) rfl
set_option maxRecDepth 20000 in
theorem m31_87 : (Cond.code ⟨"SignalTheatre", "count", "(I)I"⟩ prog_1_method_14_code 2 (Option.some FieldType.int) : Cond) ∈ q_big := q_m4 (List.mem_of_getElem? (i := 123) rfl) rfl
set_option maxRecDepth 20000 in
theorem m31_88 : (Cond.instanceMethod ⟨"SignalTheatre", "count", "(I)I"⟩ : Cond) ∈ q_big := q_m4 (List.mem_of_getElem? (i := 121) rfl) rfl
set_option maxRecDepth 20000 in
theorem m31_89 : (Cond.selects "SignalTheatre" ⟨"SignalTheatre", "count", "(I)I"⟩ ⟨"SignalTheatre", "count", "(I)I"⟩ : Cond) ∈ q_big := q_m4 (List.mem_of_getElem? (i := 122) rfl) rfl
set_option maxRecDepth 20000 in
theorem m31_90 : (Cond.methodLink "SignalTheatreLaw" 108 ⟨"SignalTheatreModel", "count", "(I)I"⟩ : Cond) ∈ q_big := q_m17 (List.mem_of_getElem? (i := 156) rfl) rfl
set_option maxRecDepth 20000 in
theorem m31_91 : (Cond.code ⟨"SignalTheatreModel", "count", "(I)I"⟩ prog_15_method_16_code 2 (Option.some FieldType.int) : Cond) ∈ q_big := q_m17 (List.mem_of_getElem? (i := 159) rfl) rfl
set_option maxRecDepth 20000 in
theorem m31_92 : (Cond.instanceMethod ⟨"SignalTheatreModel", "count", "(I)I"⟩ : Cond) ∈ q_big := q_m17 (List.mem_of_getElem? (i := 157) rfl) rfl
set_option maxRecDepth 20000 in
theorem m31_93 : (Cond.selects "SignalTheatreModel" ⟨"SignalTheatreModel", "count", "(I)I"⟩ ⟨"SignalTheatreModel", "count", "(I)I"⟩ : Cond) ∈ q_big := q_m17 (List.mem_of_getElem? (i := 158) rfl) rfl
theorem d31_SignalTheatreLaw_law_104 : decode code 104 = .ok (.aload_n 1, 1) := by decide +kernel
theorem d31_SignalTheatreLaw_law_105 : decode code 105 = .ok (.aload_n 0, 1) := by decide +kernel
theorem d31_SignalTheatreLaw_law_106 : decode code 106 = .ok (.iload 4, 2) := by decide +kernel
theorem d31_SignalTheatreLaw_law_108 : decode code 108 = .ok (.iconst 1, 1) := by decide +kernel
theorem d31_SignalTheatreLaw_law_109 : decode code 109 = .ok (.iadd, 1) := by decide +kernel
theorem d31_SignalTheatreLaw_law_110 : decode code 110 = .ok (.iaload, 1) := by decide +kernel
theorem d31_SignalTheatreLaw_law_111 : decode code 111 = .ok (.aload_n 0, 1) := by decide +kernel
theorem d31_SignalTheatreLaw_law_112 : decode code 112 = .ok (.iload 4, 2) := by decide +kernel
theorem d31_SignalTheatreLaw_law_114 : decode code 114 = .ok (.iconst 2, 1) := by decide +kernel
theorem d31_SignalTheatreLaw_law_115 : decode code 115 = .ok (.iadd, 1) := by decide +kernel
theorem d31_SignalTheatreLaw_law_116 : decode code 116 = .ok (.iaload, 1) := by decide +kernel
theorem d31_SignalTheatreLaw_law_117 : decode code 117 = .ok (.aload_n 0, 1) := by decide +kernel
theorem d31_SignalTheatreLaw_law_118 : decode code 118 = .ok (.iload 4, 2) := by decide +kernel
theorem d31_SignalTheatreLaw_law_120 : decode code 120 = .ok (.iconst 3, 1) := by decide +kernel
theorem d31_SignalTheatreLaw_law_121 : decode code 121 = .ok (.iadd, 1) := by decide +kernel
theorem d31_SignalTheatreLaw_law_122 : decode code 122 = .ok (.iaload, 1) := by decide +kernel
theorem d31_SignalTheatreLaw_law_123 : decode code 123 = .ok (.aload_n 0, 1) := by decide +kernel
theorem d31_SignalTheatreLaw_law_124 : decode code 124 = .ok (.iload 4, 2) := by decide +kernel
theorem d31_SignalTheatreLaw_law_126 : decode code 126 = .ok (.iconst 4, 1) := by decide +kernel
theorem d31_SignalTheatreLaw_law_127 : decode code 127 = .ok (.iadd, 1) := by decide +kernel
theorem d31_SignalTheatreLaw_law_128 : decode code 128 = .ok (.iaload, 1) := by decide +kernel
theorem d31_SignalTheatreLaw_law_129 : decode code 129 = .ok (.aload_n 0, 1) := by decide +kernel
theorem d31_SignalTheatreLaw_law_130 : decode code 130 = .ok (.iload 4, 2) := by decide +kernel
theorem d31_SignalTheatreLaw_law_132 : decode code 132 = .ok (.iconst 5, 1) := by decide +kernel
theorem d31_SignalTheatreLaw_law_133 : decode code 133 = .ok (.iadd, 1) := by decide +kernel
theorem d31_SignalTheatreLaw_law_134 : decode code 134 = .ok (.iaload, 1) := by decide +kernel
theorem d31_SignalTheatreLaw_law_135 : decode code 135 = .ok (.aload_n 3, 1) := by decide +kernel
theorem d31_SignalTheatreLaw_law_136 : decode code 136 = .ok (.invokestatic 57, 3) := by decide +kernel
theorem d31_SignalTheatreLaw_law_139 : decode code 139 = .ok (.istore 5, 2) := by decide +kernel
theorem d31_SignalTheatreLaw_law_141 : decode code 141 = .ok (.aload_n 2, 1) := by decide +kernel
theorem d31_SignalTheatreLaw_law_142 : decode code 142 = .ok (.aload_n 0, 1) := by decide +kernel
theorem d31_SignalTheatreLaw_law_143 : decode code 143 = .ok (.iload 4, 2) := by decide +kernel
theorem d31_SignalTheatreLaw_law_145 : decode code 145 = .ok (.iconst 1, 1) := by decide +kernel
theorem d31_SignalTheatreLaw_law_146 : decode code 146 = .ok (.iadd, 1) := by decide +kernel
theorem d31_SignalTheatreLaw_law_147 : decode code 147 = .ok (.iaload, 1) := by decide +kernel
theorem d31_SignalTheatreLaw_law_148 : decode code 148 = .ok (.aload_n 0, 1) := by decide +kernel
theorem d31_SignalTheatreLaw_law_149 : decode code 149 = .ok (.iload 4, 2) := by decide +kernel
theorem d31_SignalTheatreLaw_law_151 : decode code 151 = .ok (.iconst 2, 1) := by decide +kernel
theorem d31_SignalTheatreLaw_law_152 : decode code 152 = .ok (.iadd, 1) := by decide +kernel
theorem d31_SignalTheatreLaw_law_153 : decode code 153 = .ok (.iaload, 1) := by decide +kernel
theorem d31_SignalTheatreLaw_law_154 : decode code 154 = .ok (.aload_n 0, 1) := by decide +kernel
theorem d31_SignalTheatreLaw_law_155 : decode code 155 = .ok (.iload 4, 2) := by decide +kernel
theorem d31_SignalTheatreLaw_law_157 : decode code 157 = .ok (.iconst 3, 1) := by decide +kernel
theorem d31_SignalTheatreLaw_law_158 : decode code 158 = .ok (.iadd, 1) := by decide +kernel
theorem d31_SignalTheatreLaw_law_159 : decode code 159 = .ok (.iaload, 1) := by decide +kernel
theorem d31_SignalTheatreLaw_law_160 : decode code 160 = .ok (.aload_n 0, 1) := by decide +kernel
theorem d31_SignalTheatreLaw_law_161 : decode code 161 = .ok (.iload 4, 2) := by decide +kernel
theorem d31_SignalTheatreLaw_law_163 : decode code 163 = .ok (.iconst 4, 1) := by decide +kernel
theorem d31_SignalTheatreLaw_law_164 : decode code 164 = .ok (.iadd, 1) := by decide +kernel
theorem d31_SignalTheatreLaw_law_165 : decode code 165 = .ok (.iaload, 1) := by decide +kernel
theorem d31_SignalTheatreLaw_law_166 : decode code 166 = .ok (.aload_n 0, 1) := by decide +kernel
theorem d31_SignalTheatreLaw_law_167 : decode code 167 = .ok (.iload 4, 2) := by decide +kernel
theorem d31_SignalTheatreLaw_law_169 : decode code 169 = .ok (.iconst 5, 1) := by decide +kernel
theorem d31_SignalTheatreLaw_law_170 : decode code 170 = .ok (.iadd, 1) := by decide +kernel
theorem d31_SignalTheatreLaw_law_171 : decode code 171 = .ok (.iaload, 1) := by decide +kernel
theorem d31_SignalTheatreLaw_law_172 : decode code 172 = .ok (.invokevirtual 62, 3) := by decide +kernel
theorem d31_SignalTheatreLaw_law_175 : decode code 175 = .ok (.istore 6, 2) := by decide +kernel
theorem d31_SignalTheatreLaw_law_177 : decode code 177 = .ok (.aload_n 2, 1) := by decide +kernel
theorem d31_SignalTheatreLaw_law_178 : decode code 178 = .ok (.invokevirtual 63, 3) := by decide +kernel
theorem d31_SignalTheatreLaw_law_181 : decode code 181 = .ok (.iload 5, 2) := by decide +kernel
theorem d31_SignalTheatreLaw_law_183 : decode code 183 = .ok (.if_icmp .eq 5, 3) := by decide +kernel
theorem d31_SignalTheatreLaw_law_188 : decode code 188 = .ok (.iload 5, 2) := by decide +kernel
theorem d31_SignalTheatreLaw_law_190 : decode code 190 = .ok (.ifCond .ne 15, 3) := by decide +kernel
theorem d31_SignalTheatreLaw_law_193 : decode code 193 = .ok (.aload_n 3, 1) := by decide +kernel
theorem d31_SignalTheatreLaw_law_194 : decode code 194 = .ok (.iconst 0, 1) := by decide +kernel
theorem d31_SignalTheatreLaw_law_195 : decode code 195 = .ok (.laload, 1) := by decide +kernel
theorem d31_SignalTheatreLaw_law_196 : decode code 196 = .ok (.iload 6, 2) := by decide +kernel
theorem d31_SignalTheatreLaw_law_198 : decode code 198 = .ok (.i2l, 1) := by decide +kernel
theorem d31_SignalTheatreLaw_law_199 : decode code 199 = .ok (.lcmp, 1) := by decide +kernel
theorem d31_SignalTheatreLaw_law_200 : decode code 200 = .ok (.ifCond .eq 5, 3) := by decide +kernel
theorem d31_SignalTheatreLaw_law_205 : decode code 205 = .ok (.goto 663, 3) := by decide +kernel
theorem d31_SignalTheatreLaw_law_208 : decode code 208 = .ok (.aload_n 1, 1) := by decide +kernel
theorem d31_SignalTheatreLaw_law_209 : decode code 209 = .ok (.aload_n 0, 1) := by decide +kernel
theorem d31_SignalTheatreLaw_law_210 : decode code 210 = .ok (.iload 4, 2) := by decide +kernel
theorem d31_SignalTheatreLaw_law_212 : decode code 212 = .ok (.iconst 1, 1) := by decide +kernel
theorem d31_SignalTheatreLaw_law_213 : decode code 213 = .ok (.iadd, 1) := by decide +kernel
theorem d31_SignalTheatreLaw_law_214 : decode code 214 = .ok (.iaload, 1) := by decide +kernel
theorem d31_SignalTheatreLaw_law_215 : decode code 215 = .ok (.aload_n 3, 1) := by decide +kernel
theorem d31_SignalTheatreLaw_law_216 : decode code 216 = .ok (.invokestatic 66, 3) := by decide +kernel
theorem d31_SignalTheatreLaw_law_219 : decode code 219 = .ok (.istore 5, 2) := by decide +kernel
theorem d31_SignalTheatreLaw_law_221 : decode code 221 = .ok (.aload_n 2, 1) := by decide +kernel
theorem d31_SignalTheatreLaw_law_222 : decode code 222 = .ok (.aload_n 0, 1) := by decide +kernel
theorem d31_SignalTheatreLaw_law_223 : decode code 223 = .ok (.iload 4, 2) := by decide +kernel
theorem d31_SignalTheatreLaw_law_225 : decode code 225 = .ok (.iconst 1, 1) := by decide +kernel
theorem d31_SignalTheatreLaw_law_226 : decode code 226 = .ok (.iadd, 1) := by decide +kernel
theorem d31_SignalTheatreLaw_law_227 : decode code 227 = .ok (.iaload, 1) := by decide +kernel
theorem d31_SignalTheatreLaw_law_228 : decode code 228 = .ok (.invokevirtual 69, 3) := by decide +kernel
theorem d31_SignalTheatreLaw_law_231 : decode code 231 = .ok (.istore 6, 2) := by decide +kernel
theorem d31_SignalTheatreLaw_law_233 : decode code 233 = .ok (.aload_n 2, 1) := by decide +kernel
theorem d31_SignalTheatreLaw_law_234 : decode code 234 = .ok (.invokevirtual 63, 3) := by decide +kernel
theorem d31_SignalTheatreLaw_law_237 : decode code 237 = .ok (.iload 5, 2) := by decide +kernel
theorem d31_SignalTheatreLaw_law_239 : decode code 239 = .ok (.if_icmp .eq 5, 3) := by decide +kernel
theorem d31_SignalTheatreLaw_law_244 : decode code 244 = .ok (.iload 5, 2) := by decide +kernel
theorem d31_SignalTheatreLaw_law_246 : decode code 246 = .ok (.ifCond .ne 15, 3) := by decide +kernel
theorem d31_SignalTheatreLaw_law_261 : decode code 261 = .ok (.goto 607, 3) := by decide +kernel
theorem d31_SignalTheatreLaw_law_249 : decode code 249 = .ok (.aload_n 3, 1) := by decide +kernel
theorem d31_SignalTheatreLaw_law_250 : decode code 250 = .ok (.iconst 0, 1) := by decide +kernel
theorem d31_SignalTheatreLaw_law_251 : decode code 251 = .ok (.laload, 1) := by decide +kernel
theorem d31_SignalTheatreLaw_law_252 : decode code 252 = .ok (.iload 6, 2) := by decide +kernel
theorem d31_SignalTheatreLaw_law_254 : decode code 254 = .ok (.i2l, 1) := by decide +kernel
theorem d31_SignalTheatreLaw_law_255 : decode code 255 = .ok (.lcmp, 1) := by decide +kernel
theorem d31_SignalTheatreLaw_law_256 : decode code 256 = .ok (.ifCond .eq 5, 3) := by decide +kernel
theorem d31_SignalTheatreLaw_law_264 : decode code 264 = .ok (.aload_n 1, 1) := by decide +kernel
theorem d31_SignalTheatreLaw_law_265 : decode code 265 = .ok (.aload_n 3, 1) := by decide +kernel
theorem d31_SignalTheatreLaw_law_266 : decode code 266 = .ok (.invokestatic 70, 3) := by decide +kernel
theorem d31_SignalTheatreLaw_law_269 : decode code 269 = .ok (.istore 5, 2) := by decide +kernel
theorem d31_SignalTheatreLaw_law_271 : decode code 271 = .ok (.aload_n 2, 1) := by decide +kernel
theorem d31_SignalTheatreLaw_law_272 : decode code 272 = .ok (.invokevirtual 73, 3) := by decide +kernel
theorem d31_SignalTheatreLaw_law_275 : decode code 275 = .ok (.istore 6, 2) := by decide +kernel
theorem d31_SignalTheatreLaw_law_277 : decode code 277 = .ok (.aload_n 2, 1) := by decide +kernel
theorem d31_SignalTheatreLaw_law_278 : decode code 278 = .ok (.invokevirtual 63, 3) := by decide +kernel
theorem d31_SignalTheatreLaw_law_281 : decode code 281 = .ok (.iload 5, 2) := by decide +kernel
theorem d31_SignalTheatreLaw_law_283 : decode code 283 = .ok (.if_icmp .eq 5, 3) := by decide +kernel
theorem d31_SignalTheatreLaw_law_288 : decode code 288 = .ok (.iload 5, 2) := by decide +kernel
theorem d31_SignalTheatreLaw_law_290 : decode code 290 = .ok (.ifCond .ne 15, 3) := by decide +kernel
theorem d31_SignalTheatreLaw_law_305 : decode code 305 = .ok (.goto 563, 3) := by decide +kernel
theorem d31_SignalTheatreLaw_law_308 : decode code 308 = .ok (.aload_n 1, 1) := by decide +kernel
theorem d31_SignalTheatreLaw_law_309 : decode code 309 = .ok (.aload_n 0, 1) := by decide +kernel
theorem d31_SignalTheatreLaw_law_310 : decode code 310 = .ok (.iload 4, 2) := by decide +kernel
theorem d31_SignalTheatreLaw_law_312 : decode code 312 = .ok (.iconst 1, 1) := by decide +kernel
theorem d31_SignalTheatreLaw_law_313 : decode code 313 = .ok (.iadd, 1) := by decide +kernel
theorem d31_SignalTheatreLaw_law_314 : decode code 314 = .ok (.iaload, 1) := by decide +kernel
theorem d31_SignalTheatreLaw_law_315 : decode code 315 = .ok (.aload_n 3, 1) := by decide +kernel
theorem d31_SignalTheatreLaw_law_316 : decode code 316 = .ok (.invokestatic 74, 3) := by decide +kernel
theorem d31_SignalTheatreLaw_law_319 : decode code 319 = .ok (.istore 5, 2) := by decide +kernel
theorem d31_SignalTheatreLaw_law_321 : decode code 321 = .ok (.aload_n 2, 1) := by decide +kernel
theorem d31_SignalTheatreLaw_law_322 : decode code 322 = .ok (.aload_n 0, 1) := by decide +kernel
theorem d31_SignalTheatreLaw_law_323 : decode code 323 = .ok (.iload 4, 2) := by decide +kernel
theorem d31_SignalTheatreLaw_law_325 : decode code 325 = .ok (.iconst 1, 1) := by decide +kernel
theorem d31_SignalTheatreLaw_law_326 : decode code 326 = .ok (.iadd, 1) := by decide +kernel
theorem d31_SignalTheatreLaw_law_327 : decode code 327 = .ok (.iaload, 1) := by decide +kernel
theorem d31_SignalTheatreLaw_law_328 : decode code 328 = .ok (.invokevirtual 76, 3) := by decide +kernel
theorem d31_SignalTheatreLaw_law_331 : decode code 331 = .ok (.istore 6, 2) := by decide +kernel
theorem d31_SignalTheatreLaw_law_333 : decode code 333 = .ok (.aload_n 2, 1) := by decide +kernel
theorem d31_SignalTheatreLaw_law_334 : decode code 334 = .ok (.invokevirtual 63, 3) := by decide +kernel
theorem d31_SignalTheatreLaw_law_337 : decode code 337 = .ok (.iload 5, 2) := by decide +kernel
theorem d31_SignalTheatreLaw_law_339 : decode code 339 = .ok (.if_icmp .eq 5, 3) := by decide +kernel
theorem d31_SignalTheatreLaw_law_344 : decode code 344 = .ok (.iload 5, 2) := by decide +kernel
theorem d31_SignalTheatreLaw_law_346 : decode code 346 = .ok (.ifCond .ne 15, 3) := by decide +kernel
theorem d31_SignalTheatreLaw_law_361 : decode code 361 = .ok (.goto 507, 3) := by decide +kernel
theorem d31_SignalTheatreLaw_law_349 : decode code 349 = .ok (.aload_n 3, 1) := by decide +kernel
theorem d31_SignalTheatreLaw_law_350 : decode code 350 = .ok (.iconst 0, 1) := by decide +kernel
theorem d31_SignalTheatreLaw_law_351 : decode code 351 = .ok (.laload, 1) := by decide +kernel
theorem d31_SignalTheatreLaw_law_352 : decode code 352 = .ok (.iload 6, 2) := by decide +kernel
theorem d31_SignalTheatreLaw_law_354 : decode code 354 = .ok (.i2l, 1) := by decide +kernel
theorem d31_SignalTheatreLaw_law_355 : decode code 355 = .ok (.lcmp, 1) := by decide +kernel
theorem d31_SignalTheatreLaw_law_356 : decode code 356 = .ok (.ifCond .eq 5, 3) := by decide +kernel
theorem d31_SignalTheatreLaw_law_364 : decode code 364 = .ok (.aload_n 1, 1) := by decide +kernel
theorem d31_SignalTheatreLaw_law_365 : decode code 365 = .ok (.aload_n 0, 1) := by decide +kernel
theorem d31_SignalTheatreLaw_law_366 : decode code 366 = .ok (.iload 4, 2) := by decide +kernel
theorem d31_SignalTheatreLaw_law_368 : decode code 368 = .ok (.iconst 1, 1) := by decide +kernel
theorem d31_SignalTheatreLaw_law_369 : decode code 369 = .ok (.iadd, 1) := by decide +kernel
theorem d31_SignalTheatreLaw_law_370 : decode code 370 = .ok (.iaload, 1) := by decide +kernel
theorem d31_SignalTheatreLaw_law_371 : decode code 371 = .ok (.aload_n 3, 1) := by decide +kernel
theorem d31_SignalTheatreLaw_law_372 : decode code 372 = .ok (.invokestatic 77, 3) := by decide +kernel
theorem d31_SignalTheatreLaw_law_375 : decode code 375 = .ok (.istore 5, 2) := by decide +kernel
theorem d31_SignalTheatreLaw_law_377 : decode code 377 = .ok (.aload_n 2, 1) := by decide +kernel
theorem d31_SignalTheatreLaw_law_378 : decode code 378 = .ok (.aload_n 0, 1) := by decide +kernel
theorem d31_SignalTheatreLaw_law_379 : decode code 379 = .ok (.iload 4, 2) := by decide +kernel
theorem d31_SignalTheatreLaw_law_381 : decode code 381 = .ok (.iconst 1, 1) := by decide +kernel
theorem d31_SignalTheatreLaw_law_382 : decode code 382 = .ok (.iadd, 1) := by decide +kernel
theorem d31_SignalTheatreLaw_law_383 : decode code 383 = .ok (.iaload, 1) := by decide +kernel
theorem d31_SignalTheatreLaw_law_384 : decode code 384 = .ok (.invokevirtual 79, 3) := by decide +kernel
theorem d31_SignalTheatreLaw_law_387 : decode code 387 = .ok (.istore 6, 2) := by decide +kernel
theorem d31_SignalTheatreLaw_law_389 : decode code 389 = .ok (.aload_n 2, 1) := by decide +kernel
theorem d31_SignalTheatreLaw_law_390 : decode code 390 = .ok (.invokevirtual 63, 3) := by decide +kernel
theorem d31_SignalTheatreLaw_law_393 : decode code 393 = .ok (.iload 5, 2) := by decide +kernel
theorem d31_SignalTheatreLaw_law_395 : decode code 395 = .ok (.if_icmp .eq 5, 3) := by decide +kernel
theorem d31_SignalTheatreLaw_law_400 : decode code 400 = .ok (.iload 5, 2) := by decide +kernel
theorem d31_SignalTheatreLaw_law_402 : decode code 402 = .ok (.ifCond .ne 15, 3) := by decide +kernel
theorem d31_SignalTheatreLaw_law_417 : decode code 417 = .ok (.goto 451, 3) := by decide +kernel
theorem d31_SignalTheatreLaw_law_420 : decode code 420 = .ok (.aload_n 1, 1) := by decide +kernel
theorem d31_SignalTheatreLaw_law_421 : decode code 421 = .ok (.aload_n 0, 1) := by decide +kernel
theorem d31_SignalTheatreLaw_law_422 : decode code 422 = .ok (.iload 4, 2) := by decide +kernel
theorem d31_SignalTheatreLaw_law_424 : decode code 424 = .ok (.iconst 1, 1) := by decide +kernel
theorem d31_SignalTheatreLaw_law_425 : decode code 425 = .ok (.iadd, 1) := by decide +kernel
theorem d31_SignalTheatreLaw_law_426 : decode code 426 = .ok (.iaload, 1) := by decide +kernel
theorem d31_SignalTheatreLaw_law_427 : decode code 427 = .ok (.aload_n 0, 1) := by decide +kernel
theorem d31_SignalTheatreLaw_law_428 : decode code 428 = .ok (.iload 4, 2) := by decide +kernel
theorem d31_SignalTheatreLaw_law_430 : decode code 430 = .ok (.iconst 2, 1) := by decide +kernel
theorem d31_SignalTheatreLaw_law_431 : decode code 431 = .ok (.iadd, 1) := by decide +kernel
theorem d31_SignalTheatreLaw_law_432 : decode code 432 = .ok (.iaload, 1) := by decide +kernel
theorem d31_SignalTheatreLaw_law_433 : decode code 433 = .ok (.aload_n 0, 1) := by decide +kernel
theorem d31_SignalTheatreLaw_law_434 : decode code 434 = .ok (.iload 4, 2) := by decide +kernel
theorem d31_SignalTheatreLaw_law_436 : decode code 436 = .ok (.iconst 3, 1) := by decide +kernel
theorem d31_SignalTheatreLaw_law_437 : decode code 437 = .ok (.iadd, 1) := by decide +kernel
theorem d31_SignalTheatreLaw_law_438 : decode code 438 = .ok (.iaload, 1) := by decide +kernel
theorem d31_SignalTheatreLaw_law_439 : decode code 439 = .ok (.aload_n 3, 1) := by decide +kernel
theorem d31_SignalTheatreLaw_law_440 : decode code 440 = .ok (.invokestatic 80, 3) := by decide +kernel
theorem d31_SignalTheatreLaw_law_443 : decode code 443 = .ok (.istore 5, 2) := by decide +kernel
theorem d31_SignalTheatreLaw_law_445 : decode code 445 = .ok (.aload_n 2, 1) := by decide +kernel
theorem d31_SignalTheatreLaw_law_446 : decode code 446 = .ok (.aload_n 0, 1) := by decide +kernel
theorem d31_SignalTheatreLaw_law_447 : decode code 447 = .ok (.iload 4, 2) := by decide +kernel
theorem d31_SignalTheatreLaw_law_449 : decode code 449 = .ok (.iconst 1, 1) := by decide +kernel
theorem d31_SignalTheatreLaw_law_450 : decode code 450 = .ok (.iadd, 1) := by decide +kernel
theorem d31_SignalTheatreLaw_law_451 : decode code 451 = .ok (.iaload, 1) := by decide +kernel
theorem d31_SignalTheatreLaw_law_452 : decode code 452 = .ok (.aload_n 0, 1) := by decide +kernel
theorem d31_SignalTheatreLaw_law_453 : decode code 453 = .ok (.iload 4, 2) := by decide +kernel
theorem d31_SignalTheatreLaw_law_455 : decode code 455 = .ok (.iconst 2, 1) := by decide +kernel
theorem d31_SignalTheatreLaw_law_456 : decode code 456 = .ok (.iadd, 1) := by decide +kernel
theorem d31_SignalTheatreLaw_law_457 : decode code 457 = .ok (.iaload, 1) := by decide +kernel
theorem d31_SignalTheatreLaw_law_458 : decode code 458 = .ok (.aload_n 0, 1) := by decide +kernel
theorem d31_SignalTheatreLaw_law_459 : decode code 459 = .ok (.iload 4, 2) := by decide +kernel
theorem d31_SignalTheatreLaw_law_461 : decode code 461 = .ok (.iconst 3, 1) := by decide +kernel
theorem d31_SignalTheatreLaw_law_462 : decode code 462 = .ok (.iadd, 1) := by decide +kernel
theorem d31_SignalTheatreLaw_law_463 : decode code 463 = .ok (.iaload, 1) := by decide +kernel
theorem d31_SignalTheatreLaw_law_464 : decode code 464 = .ok (.invokevirtual 83, 3) := by decide +kernel
theorem d31_SignalTheatreLaw_law_467 : decode code 467 = .ok (.lstore 6, 2) := by decide +kernel
theorem d31_SignalTheatreLaw_law_469 : decode code 469 = .ok (.aload_n 2, 1) := by decide +kernel
theorem d31_SignalTheatreLaw_law_470 : decode code 470 = .ok (.invokevirtual 63, 3) := by decide +kernel
theorem d31_SignalTheatreLaw_law_473 : decode code 473 = .ok (.iload 5, 2) := by decide +kernel
theorem d31_SignalTheatreLaw_law_475 : decode code 475 = .ok (.if_icmp .eq 5, 3) := by decide +kernel
theorem d31_SignalTheatreLaw_law_480 : decode code 480 = .ok (.iload 5, 2) := by decide +kernel
theorem d31_SignalTheatreLaw_law_482 : decode code 482 = .ok (.ifCond .ne 14, 3) := by decide +kernel
theorem d31_SignalTheatreLaw_law_496 : decode code 496 = .ok (.goto 372, 3) := by decide +kernel
theorem d31_SignalTheatreLaw_law_499 : decode code 499 = .ok (.aload_n 1, 1) := by decide +kernel
theorem d31_SignalTheatreLaw_law_500 : decode code 500 = .ok (.aload_n 0, 1) := by decide +kernel
theorem d31_SignalTheatreLaw_law_501 : decode code 501 = .ok (.iload 4, 2) := by decide +kernel
theorem d31_SignalTheatreLaw_law_503 : decode code 503 = .ok (.iconst 1, 1) := by decide +kernel
theorem d31_SignalTheatreLaw_law_504 : decode code 504 = .ok (.iadd, 1) := by decide +kernel
theorem d31_SignalTheatreLaw_law_505 : decode code 505 = .ok (.iaload, 1) := by decide +kernel
theorem d31_SignalTheatreLaw_law_506 : decode code 506 = .ok (.aload_n 0, 1) := by decide +kernel
theorem d31_SignalTheatreLaw_law_507 : decode code 507 = .ok (.iload 4, 2) := by decide +kernel
theorem d31_SignalTheatreLaw_law_509 : decode code 509 = .ok (.iconst 2, 1) := by decide +kernel
theorem d31_SignalTheatreLaw_law_510 : decode code 510 = .ok (.iadd, 1) := by decide +kernel
theorem d31_SignalTheatreLaw_law_511 : decode code 511 = .ok (.iaload, 1) := by decide +kernel
theorem d31_SignalTheatreLaw_law_512 : decode code 512 = .ok (.aload_n 0, 1) := by decide +kernel
theorem d31_SignalTheatreLaw_law_513 : decode code 513 = .ok (.iload 4, 2) := by decide +kernel
theorem d31_SignalTheatreLaw_law_515 : decode code 515 = .ok (.iconst 3, 1) := by decide +kernel
theorem d31_SignalTheatreLaw_law_516 : decode code 516 = .ok (.iadd, 1) := by decide +kernel
theorem d31_SignalTheatreLaw_law_517 : decode code 517 = .ok (.iaload, 1) := by decide +kernel
theorem d31_SignalTheatreLaw_law_518 : decode code 518 = .ok (.i2l, 1) := by decide +kernel
theorem d31_SignalTheatreLaw_law_519 : decode code 519 = .ok (.bipush 32, 2) := by decide +kernel
theorem d31_SignalTheatreLaw_law_521 : decode code 521 = .ok (.lshl, 1) := by decide +kernel
theorem d31_SignalTheatreLaw_law_522 : decode code 522 = .ok (.aload_n 0, 1) := by decide +kernel
theorem d31_SignalTheatreLaw_law_523 : decode code 523 = .ok (.iload 4, 2) := by decide +kernel
theorem d31_SignalTheatreLaw_law_525 : decode code 525 = .ok (.iconst 4, 1) := by decide +kernel
theorem d31_SignalTheatreLaw_law_526 : decode code 526 = .ok (.iadd, 1) := by decide +kernel
theorem d31_SignalTheatreLaw_law_527 : decode code 527 = .ok (.iaload, 1) := by decide +kernel
theorem d31_SignalTheatreLaw_law_528 : decode code 528 = .ok (.i2l, 1) := by decide +kernel
theorem d31_SignalTheatreLaw_law_529 : decode code 529 = .ok (.ldc2_w 84, 3) := by decide +kernel
theorem d31_SignalTheatreLaw_law_532 : decode code 532 = .ok (.land, 1) := by decide +kernel
theorem d31_SignalTheatreLaw_law_533 : decode code 533 = .ok (.lor, 1) := by decide +kernel
theorem d31_SignalTheatreLaw_law_534 : decode code 534 = .ok (.aload_n 0, 1) := by decide +kernel
theorem d31_SignalTheatreLaw_law_535 : decode code 535 = .ok (.iload 4, 2) := by decide +kernel
theorem d31_SignalTheatreLaw_law_537 : decode code 537 = .ok (.iconst 5, 1) := by decide +kernel
theorem d31_SignalTheatreLaw_law_538 : decode code 538 = .ok (.iadd, 1) := by decide +kernel
theorem d31_SignalTheatreLaw_law_539 : decode code 539 = .ok (.iaload, 1) := by decide +kernel
theorem d31_SignalTheatreLaw_law_540 : decode code 540 = .ok (.i2l, 1) := by decide +kernel
theorem d31_SignalTheatreLaw_law_541 : decode code 541 = .ok (.bipush 32, 2) := by decide +kernel
theorem d31_SignalTheatreLaw_law_543 : decode code 543 = .ok (.lshl, 1) := by decide +kernel
theorem d31_SignalTheatreLaw_law_544 : decode code 544 = .ok (.aload_n 0, 1) := by decide +kernel
theorem d31_SignalTheatreLaw_law_545 : decode code 545 = .ok (.iload 4, 2) := by decide +kernel
theorem d31_SignalTheatreLaw_law_547 : decode code 547 = .ok (.bipush 6, 2) := by decide +kernel
theorem d31_SignalTheatreLaw_law_549 : decode code 549 = .ok (.iadd, 1) := by decide +kernel
theorem d31_SignalTheatreLaw_law_550 : decode code 550 = .ok (.iaload, 1) := by decide +kernel
theorem d31_SignalTheatreLaw_law_551 : decode code 551 = .ok (.i2l, 1) := by decide +kernel
theorem d31_SignalTheatreLaw_law_552 : decode code 552 = .ok (.ldc2_w 84, 3) := by decide +kernel
theorem d31_SignalTheatreLaw_law_555 : decode code 555 = .ok (.land, 1) := by decide +kernel
theorem d31_SignalTheatreLaw_law_556 : decode code 556 = .ok (.lor, 1) := by decide +kernel
theorem d31_SignalTheatreLaw_law_557 : decode code 557 = .ok (.invokestatic 86, 3) := by decide +kernel
theorem d31_SignalTheatreLaw_law_560 : decode code 560 = .ok (.istore 5, 2) := by decide +kernel
theorem d31_SignalTheatreLaw_law_562 : decode code 562 = .ok (.aload_n 2, 1) := by decide +kernel
theorem d31_SignalTheatreLaw_law_563 : decode code 563 = .ok (.aload_n 0, 1) := by decide +kernel
theorem d31_SignalTheatreLaw_law_564 : decode code 564 = .ok (.iload 4, 2) := by decide +kernel
theorem d31_SignalTheatreLaw_law_566 : decode code 566 = .ok (.iconst 1, 1) := by decide +kernel
theorem d31_SignalTheatreLaw_law_567 : decode code 567 = .ok (.iadd, 1) := by decide +kernel
theorem d31_SignalTheatreLaw_law_568 : decode code 568 = .ok (.iaload, 1) := by decide +kernel
theorem d31_SignalTheatreLaw_law_569 : decode code 569 = .ok (.aload_n 0, 1) := by decide +kernel
theorem d31_SignalTheatreLaw_law_570 : decode code 570 = .ok (.iload 4, 2) := by decide +kernel
theorem d31_SignalTheatreLaw_law_572 : decode code 572 = .ok (.iconst 2, 1) := by decide +kernel
theorem d31_SignalTheatreLaw_law_573 : decode code 573 = .ok (.iadd, 1) := by decide +kernel
theorem d31_SignalTheatreLaw_law_574 : decode code 574 = .ok (.iaload, 1) := by decide +kernel
theorem d31_SignalTheatreLaw_law_575 : decode code 575 = .ok (.aload_n 0, 1) := by decide +kernel
theorem d31_SignalTheatreLaw_law_576 : decode code 576 = .ok (.iload 4, 2) := by decide +kernel
theorem d31_SignalTheatreLaw_law_578 : decode code 578 = .ok (.iconst 3, 1) := by decide +kernel
theorem d31_SignalTheatreLaw_law_579 : decode code 579 = .ok (.iadd, 1) := by decide +kernel
theorem d31_SignalTheatreLaw_law_580 : decode code 580 = .ok (.iaload, 1) := by decide +kernel
theorem d31_SignalTheatreLaw_law_581 : decode code 581 = .ok (.i2l, 1) := by decide +kernel
theorem d31_SignalTheatreLaw_law_582 : decode code 582 = .ok (.bipush 32, 2) := by decide +kernel
theorem d31_SignalTheatreLaw_law_584 : decode code 584 = .ok (.lshl, 1) := by decide +kernel
theorem d31_SignalTheatreLaw_law_585 : decode code 585 = .ok (.aload_n 0, 1) := by decide +kernel
theorem d31_SignalTheatreLaw_law_586 : decode code 586 = .ok (.iload 4, 2) := by decide +kernel
theorem d31_SignalTheatreLaw_law_588 : decode code 588 = .ok (.iconst 4, 1) := by decide +kernel
theorem d31_SignalTheatreLaw_law_589 : decode code 589 = .ok (.iadd, 1) := by decide +kernel
theorem d31_SignalTheatreLaw_law_590 : decode code 590 = .ok (.iaload, 1) := by decide +kernel
theorem d31_SignalTheatreLaw_law_591 : decode code 591 = .ok (.i2l, 1) := by decide +kernel
theorem d31_SignalTheatreLaw_law_592 : decode code 592 = .ok (.ldc2_w 84, 3) := by decide +kernel
theorem d31_SignalTheatreLaw_law_595 : decode code 595 = .ok (.land, 1) := by decide +kernel
theorem d31_SignalTheatreLaw_law_596 : decode code 596 = .ok (.lor, 1) := by decide +kernel
theorem d31_SignalTheatreLaw_law_597 : decode code 597 = .ok (.aload_n 0, 1) := by decide +kernel
theorem d31_SignalTheatreLaw_law_598 : decode code 598 = .ok (.iload 4, 2) := by decide +kernel
theorem d31_SignalTheatreLaw_law_600 : decode code 600 = .ok (.iconst 5, 1) := by decide +kernel
theorem d31_SignalTheatreLaw_law_601 : decode code 601 = .ok (.iadd, 1) := by decide +kernel
theorem d31_SignalTheatreLaw_law_602 : decode code 602 = .ok (.iaload, 1) := by decide +kernel
theorem d31_SignalTheatreLaw_law_603 : decode code 603 = .ok (.i2l, 1) := by decide +kernel
theorem d31_SignalTheatreLaw_law_604 : decode code 604 = .ok (.bipush 32, 2) := by decide +kernel
theorem d31_SignalTheatreLaw_law_606 : decode code 606 = .ok (.lshl, 1) := by decide +kernel
theorem d31_SignalTheatreLaw_law_607 : decode code 607 = .ok (.aload_n 0, 1) := by decide +kernel
theorem d31_SignalTheatreLaw_law_608 : decode code 608 = .ok (.iload 4, 2) := by decide +kernel
theorem d31_SignalTheatreLaw_law_610 : decode code 610 = .ok (.bipush 6, 2) := by decide +kernel
theorem d31_SignalTheatreLaw_law_612 : decode code 612 = .ok (.iadd, 1) := by decide +kernel
theorem d31_SignalTheatreLaw_law_613 : decode code 613 = .ok (.iaload, 1) := by decide +kernel
theorem d31_SignalTheatreLaw_law_614 : decode code 614 = .ok (.i2l, 1) := by decide +kernel
theorem d31_SignalTheatreLaw_law_615 : decode code 615 = .ok (.ldc2_w 84, 3) := by decide +kernel
theorem d31_SignalTheatreLaw_law_618 : decode code 618 = .ok (.land, 1) := by decide +kernel
theorem d31_SignalTheatreLaw_law_619 : decode code 619 = .ok (.lor, 1) := by decide +kernel
theorem d31_SignalTheatreLaw_law_620 : decode code 620 = .ok (.invokevirtual 89, 3) := by decide +kernel
theorem d31_SignalTheatreLaw_law_623 : decode code 623 = .ok (.aload_n 2, 1) := by decide +kernel
theorem d31_SignalTheatreLaw_law_624 : decode code 624 = .ok (.invokevirtual 63, 3) := by decide +kernel
theorem d31_SignalTheatreLaw_law_627 : decode code 627 = .ok (.iload 5, 2) := by decide +kernel
theorem d31_SignalTheatreLaw_law_629 : decode code 629 = .ok (.if_icmp .eq 5, 3) := by decide +kernel
theorem d31_SignalTheatreLaw_law_634 : decode code 634 = .ok (.goto 234, 3) := by decide +kernel
theorem d31_SignalTheatreLaw_law_637 : decode code 637 = .ok (.aload_n 1, 1) := by decide +kernel
theorem d31_SignalTheatreLaw_law_638 : decode code 638 = .ok (.aload_n 0, 1) := by decide +kernel
theorem d31_SignalTheatreLaw_law_639 : decode code 639 = .ok (.iload 4, 2) := by decide +kernel
theorem d31_SignalTheatreLaw_law_641 : decode code 641 = .ok (.iconst 1, 1) := by decide +kernel
theorem d31_SignalTheatreLaw_law_642 : decode code 642 = .ok (.iadd, 1) := by decide +kernel
theorem d31_SignalTheatreLaw_law_643 : decode code 643 = .ok (.iaload, 1) := by decide +kernel
theorem d31_SignalTheatreLaw_law_644 : decode code 644 = .ok (.aload_n 0, 1) := by decide +kernel
theorem d31_SignalTheatreLaw_law_645 : decode code 645 = .ok (.iload 4, 2) := by decide +kernel
theorem d31_SignalTheatreLaw_law_647 : decode code 647 = .ok (.iconst 2, 1) := by decide +kernel
theorem d31_SignalTheatreLaw_law_648 : decode code 648 = .ok (.iadd, 1) := by decide +kernel
theorem d31_SignalTheatreLaw_law_649 : decode code 649 = .ok (.iaload, 1) := by decide +kernel
theorem d31_SignalTheatreLaw_law_650 : decode code 650 = .ok (.aload_n 3, 1) := by decide +kernel
theorem d31_SignalTheatreLaw_law_651 : decode code 651 = .ok (.invokestatic 90, 3) := by decide +kernel
theorem d31_SignalTheatreLaw_law_654 : decode code 654 = .ok (.istore 5, 2) := by decide +kernel
theorem d31_SignalTheatreLaw_law_656 : decode code 656 = .ok (.aload_n 2, 1) := by decide +kernel
theorem d31_SignalTheatreLaw_law_657 : decode code 657 = .ok (.aload_n 0, 1) := by decide +kernel
theorem d31_SignalTheatreLaw_law_658 : decode code 658 = .ok (.iload 4, 2) := by decide +kernel
theorem d31_SignalTheatreLaw_law_660 : decode code 660 = .ok (.iconst 1, 1) := by decide +kernel
theorem d31_SignalTheatreLaw_law_661 : decode code 661 = .ok (.iadd, 1) := by decide +kernel
theorem d31_SignalTheatreLaw_law_662 : decode code 662 = .ok (.iaload, 1) := by decide +kernel
theorem d31_SignalTheatreLaw_law_663 : decode code 663 = .ok (.aload_n 0, 1) := by decide +kernel
theorem d31_SignalTheatreLaw_law_664 : decode code 664 = .ok (.iload 4, 2) := by decide +kernel
theorem d31_SignalTheatreLaw_law_666 : decode code 666 = .ok (.iconst 2, 1) := by decide +kernel
theorem d31_SignalTheatreLaw_law_667 : decode code 667 = .ok (.iadd, 1) := by decide +kernel
theorem d31_SignalTheatreLaw_law_668 : decode code 668 = .ok (.iaload, 1) := by decide +kernel
theorem d31_SignalTheatreLaw_law_669 : decode code 669 = .ok (.invokevirtual 93, 3) := by decide +kernel
theorem d31_SignalTheatreLaw_law_672 : decode code 672 = .ok (.istore 6, 2) := by decide +kernel
theorem d31_SignalTheatreLaw_law_674 : decode code 674 = .ok (.aload_n 2, 1) := by decide +kernel
theorem d31_SignalTheatreLaw_law_675 : decode code 675 = .ok (.invokevirtual 63, 3) := by decide +kernel
theorem d31_SignalTheatreLaw_law_678 : decode code 678 = .ok (.iload 5, 2) := by decide +kernel
theorem d31_SignalTheatreLaw_law_680 : decode code 680 = .ok (.if_icmp .eq 5, 3) := by decide +kernel
theorem d31_SignalTheatreLaw_law_685 : decode code 685 = .ok (.iload 5, 2) := by decide +kernel
theorem d31_SignalTheatreLaw_law_687 : decode code 687 = .ok (.ifCond .ne 15, 3) := by decide +kernel
theorem d31_SignalTheatreLaw_law_702 : decode code 702 = .ok (.goto 166, 3) := by decide +kernel
theorem d31_SignalTheatreLaw_law_705 : decode code 705 = .ok (.aload_n 1, 1) := by decide +kernel
theorem d31_SignalTheatreLaw_law_706 : decode code 706 = .ok (.aload_n 0, 1) := by decide +kernel
theorem d31_SignalTheatreLaw_law_707 : decode code 707 = .ok (.iload 4, 2) := by decide +kernel
theorem d31_SignalTheatreLaw_law_709 : decode code 709 = .ok (.iconst 1, 1) := by decide +kernel
theorem d31_SignalTheatreLaw_law_710 : decode code 710 = .ok (.iadd, 1) := by decide +kernel
theorem d31_SignalTheatreLaw_law_711 : decode code 711 = .ok (.iaload, 1) := by decide +kernel
theorem d31_SignalTheatreLaw_law_712 : decode code 712 = .ok (.aload_n 0, 1) := by decide +kernel
theorem d31_SignalTheatreLaw_law_713 : decode code 713 = .ok (.iload 4, 2) := by decide +kernel
theorem d31_SignalTheatreLaw_law_715 : decode code 715 = .ok (.iconst 2, 1) := by decide +kernel
theorem d31_SignalTheatreLaw_law_716 : decode code 716 = .ok (.iadd, 1) := by decide +kernel
theorem d31_SignalTheatreLaw_law_717 : decode code 717 = .ok (.iaload, 1) := by decide +kernel
theorem d31_SignalTheatreLaw_law_718 : decode code 718 = .ok (.aload_n 3, 1) := by decide +kernel
theorem d31_SignalTheatreLaw_law_719 : decode code 719 = .ok (.invokestatic 94, 3) := by decide +kernel
theorem d31_SignalTheatreLaw_law_722 : decode code 722 = .ok (.istore 5, 2) := by decide +kernel
theorem d31_SignalTheatreLaw_law_724 : decode code 724 = .ok (.aload_n 2, 1) := by decide +kernel
theorem d31_SignalTheatreLaw_law_725 : decode code 725 = .ok (.aload_n 0, 1) := by decide +kernel
theorem d31_SignalTheatreLaw_law_726 : decode code 726 = .ok (.iload 4, 2) := by decide +kernel
theorem d31_SignalTheatreLaw_law_728 : decode code 728 = .ok (.iconst 1, 1) := by decide +kernel
theorem d31_SignalTheatreLaw_law_729 : decode code 729 = .ok (.iadd, 1) := by decide +kernel
theorem d31_SignalTheatreLaw_law_730 : decode code 730 = .ok (.iaload, 1) := by decide +kernel
theorem d31_SignalTheatreLaw_law_731 : decode code 731 = .ok (.aload_n 0, 1) := by decide +kernel
theorem d31_SignalTheatreLaw_law_732 : decode code 732 = .ok (.iload 4, 2) := by decide +kernel
theorem d31_SignalTheatreLaw_law_734 : decode code 734 = .ok (.iconst 2, 1) := by decide +kernel
theorem d31_SignalTheatreLaw_law_735 : decode code 735 = .ok (.iadd, 1) := by decide +kernel
theorem d31_SignalTheatreLaw_law_736 : decode code 736 = .ok (.iaload, 1) := by decide +kernel
theorem d31_SignalTheatreLaw_law_737 : decode code 737 = .ok (.invokevirtual 96, 3) := by decide +kernel
theorem d31_SignalTheatreLaw_law_740 : decode code 740 = .ok (.istore 6, 2) := by decide +kernel
theorem d31_SignalTheatreLaw_law_742 : decode code 742 = .ok (.aload_n 2, 1) := by decide +kernel
theorem d31_SignalTheatreLaw_law_743 : decode code 743 = .ok (.invokevirtual 63, 3) := by decide +kernel
theorem d31_SignalTheatreLaw_law_746 : decode code 746 = .ok (.iload 5, 2) := by decide +kernel
theorem d31_SignalTheatreLaw_law_748 : decode code 748 = .ok (.if_icmp .eq 5, 3) := by decide +kernel
theorem d31_SignalTheatreLaw_law_753 : decode code 753 = .ok (.iload 5, 2) := by decide +kernel
theorem d31_SignalTheatreLaw_law_755 : decode code 755 = .ok (.ifCond .ne 15, 3) := by decide +kernel
theorem d31_SignalTheatreLaw_law_770 : decode code 770 = .ok (.goto 98, 3) := by decide +kernel
theorem d31_SignalTheatreLaw_law_773 : decode code 773 = .ok (.aload_n 1, 1) := by decide +kernel
theorem d31_SignalTheatreLaw_law_774 : decode code 774 = .ok (.aload_n 0, 1) := by decide +kernel
theorem d31_SignalTheatreLaw_law_775 : decode code 775 = .ok (.iload 4, 2) := by decide +kernel
theorem d31_SignalTheatreLaw_law_777 : decode code 777 = .ok (.iconst 1, 1) := by decide +kernel
theorem d31_SignalTheatreLaw_law_778 : decode code 778 = .ok (.iadd, 1) := by decide +kernel
theorem d31_SignalTheatreLaw_law_779 : decode code 779 = .ok (.iaload, 1) := by decide +kernel
theorem d31_SignalTheatreLaw_law_780 : decode code 780 = .ok (.aload_n 3, 1) := by decide +kernel
theorem d31_SignalTheatreLaw_law_781 : decode code 781 = .ok (.invokestatic 97, 3) := by decide +kernel
theorem d31_SignalTheatreLaw_law_784 : decode code 784 = .ok (.istore 5, 2) := by decide +kernel
theorem d31_SignalTheatreLaw_law_786 : decode code 786 = .ok (.aload_n 2, 1) := by decide +kernel
theorem d31_SignalTheatreLaw_law_787 : decode code 787 = .ok (.aload_n 0, 1) := by decide +kernel
theorem d31_SignalTheatreLaw_law_788 : decode code 788 = .ok (.iload 4, 2) := by decide +kernel
theorem d31_SignalTheatreLaw_law_790 : decode code 790 = .ok (.iconst 1, 1) := by decide +kernel
theorem d31_SignalTheatreLaw_law_791 : decode code 791 = .ok (.iadd, 1) := by decide +kernel
theorem d31_SignalTheatreLaw_law_792 : decode code 792 = .ok (.iaload, 1) := by decide +kernel
theorem d31_SignalTheatreLaw_law_793 : decode code 793 = .ok (.invokevirtual 99, 3) := by decide +kernel
theorem d31_SignalTheatreLaw_law_796 : decode code 796 = .ok (.istore 6, 2) := by decide +kernel
theorem d31_SignalTheatreLaw_law_798 : decode code 798 = .ok (.aload_n 2, 1) := by decide +kernel
theorem d31_SignalTheatreLaw_law_799 : decode code 799 = .ok (.invokevirtual 63, 3) := by decide +kernel
theorem d31_SignalTheatreLaw_law_802 : decode code 802 = .ok (.iload 5, 2) := by decide +kernel
theorem d31_SignalTheatreLaw_law_804 : decode code 804 = .ok (.if_icmp .eq 5, 3) := by decide +kernel
theorem d31_SignalTheatreLaw_law_809 : decode code 809 = .ok (.iload 5, 2) := by decide +kernel
theorem d31_SignalTheatreLaw_law_811 : decode code 811 = .ok (.ifCond .ne 15, 3) := by decide +kernel
theorem d31_SignalTheatreLaw_law_826 : decode code 826 = .ok (.goto 42, 3) := by decide +kernel
theorem d31_SignalTheatreLaw_law_829 : decode code 829 = .ok (.aload_n 1, 1) := by decide +kernel
theorem d31_SignalTheatreLaw_law_830 : decode code 830 = .ok (.invokevirtual 100, 3) := by decide +kernel
theorem d31_SignalTheatreLaw_law_833 : decode code 833 = .ok (.aload_n 2, 1) := by decide +kernel
theorem d31_SignalTheatreLaw_law_834 : decode code 834 = .ok (.invokevirtual 104, 3) := by decide +kernel
theorem d31_SignalTheatreLaw_law_837 : decode code 837 = .ok (.lcmp, 1) := by decide +kernel
theorem d31_SignalTheatreLaw_law_838 : decode code 838 = .ok (.ifCond .eq 30, 3) := by decide +kernel
theorem d31_SignalTheatreLaw_law_843 : decode code 843 = .ok (.aload_n 1, 1) := by decide +kernel
theorem d31_SignalTheatreLaw_law_844 : decode code 844 = .ok (.aload_n 0, 1) := by decide +kernel
theorem d31_SignalTheatreLaw_law_845 : decode code 845 = .ok (.iload 4, 2) := by decide +kernel
theorem d31_SignalTheatreLaw_law_847 : decode code 847 = .ok (.iconst 1, 1) := by decide +kernel
theorem d31_SignalTheatreLaw_law_848 : decode code 848 = .ok (.iadd, 1) := by decide +kernel
theorem d31_SignalTheatreLaw_law_849 : decode code 849 = .ok (.iaload, 1) := by decide +kernel
theorem d31_SignalTheatreLaw_law_850 : decode code 850 = .ok (.invokevirtual 105, 3) := by decide +kernel
theorem d31_SignalTheatreLaw_law_853 : decode code 853 = .ok (.aload_n 2, 1) := by decide +kernel
theorem d31_SignalTheatreLaw_law_854 : decode code 854 = .ok (.aload_n 0, 1) := by decide +kernel
theorem d31_SignalTheatreLaw_law_855 : decode code 855 = .ok (.iload 4, 2) := by decide +kernel
theorem d31_SignalTheatreLaw_law_857 : decode code 857 = .ok (.iconst 1, 1) := by decide +kernel
theorem d31_SignalTheatreLaw_law_858 : decode code 858 = .ok (.iadd, 1) := by decide +kernel
theorem d31_SignalTheatreLaw_law_859 : decode code 859 = .ok (.iaload, 1) := by decide +kernel
theorem d31_SignalTheatreLaw_law_860 : decode code 860 = .ok (.invokevirtual 108, 3) := by decide +kernel
theorem d31_SignalTheatreLaw_law_863 : decode code 863 = .ok (.if_icmp .eq 5, 3) := by decide +kernel
/-- what the law may change: what it makes -/
abbrev lw_A (s : State) : Nat → Prop := fun q => s.heap.size ≤ q
set_option maxHeartbeats 4000000 in
set_option maxRecDepth 100000 in
/-- the law's case feed -/
theorem lc_feed {p : Program} {l : Launch} {e : Env} {s : State} {m : MethodId} {below : List Frame} {meth : Method} {c : Code} {Q : State → Prop} {D : va_G} {H : Heap} {locs : List Loc} {ls : Array Slot} {b : Nat} {xs : Nat → Int32} {x0 : Nat} {s_input : Nat} {s_circuit : Nat} {s_spare : Nat} {s_faults : Nat} {s_builder : Nat} {s_stage : Nat} {cI : ClassId} {g : Nat → Int32} {o0 : Nat} {cO : ClassId} {go : Nat → Int64} {m0 : Nat} {m_input : Nat} {m_tree : Nat} {m_other : Nat} {m_now : Nat} {m_spare : Nat} {m_circuit : Nat} {m_old : Nat} {cA : ClassId} (hl9 : l.stackTraces = false) (C : q_C p s m meth c #[Value.ref b] code 8 "SignalTheatreLaw" (lw_A s)) (hX : va_X b 7 xs s s.heap) (hbl : b < s.heap.size) 
    (I : q_I D q_cl (lw_A s) s [(x0, .inr (0, [.ref s_input, .int 0, .int 0, .ref s_circuit, .ref s_spare, .ref s_faults, .ref s_builder, .ref s_stage])), (s_input, .inl (cI, 32768, .inl g)), (o0, .inl (cO, 1, .inr (.inl go))), (m0, .inr (13, [.ref m_input, .int 0, .int 0, .int 0, .int (-1), .ref m_tree, .ref m_other, .ref m_now, .ref m_spare, .ref m_circuit, .ref m_old])), (m_input, .inl (cA, 32768, .inl g))] [(cI, .byte), (cO, .long), (cA, .byte)] H locs) (hl : lv_has ls 8 [(4, .int 0), (3, .ref o0), (2, .ref m0), (1, .ref x0), (0, .ref b)])
    (kk : ∀ (H : Heap) (locs : List Loc) (ls : Array Slot), q_I D q_cl (lw_A s) s [] [] H locs → lv_has ls 8 [(4, .int 0), (0, .ref b)] → W p l e room_1 s m #[Value.ref b] below meth c H locs 1300 5870000 Q (F0 m 868 ls [])) :
    W p l e room_1 s m #[Value.ref b] below meth c H locs 1170 5867776 Q (F0 m 104 ls []) := by
  have hx := C.1
  have hb := C.2.1
  refine lv_aload_n hx hb d31_SignalTheatreLaw_law_104 rfl (lv_at hl 3 rfl) ?_
  refine lv_aload_n hx hb d31_SignalTheatreLaw_law_105 rfl (lv_at hl 4 rfl) ?_
  refine lv_iload hx hb d31_SignalTheatreLaw_law_106 (lv_at hl 0 rfl) ?_
  refine lv_iconst (v := 1) hx hb d31_SignalTheatreLaw_law_108 (by decide) ?_
  refine lv_iadd hx hb d31_SignalTheatreLaw_law_109 ?_
  refine W.eq (g2 := F0 m 110 ls [.int 1, .ref b, .ref x0]) rfl ?_
  refine va_sld hx hb hX hbl (Nat.not_le.mpr hbl) I.2.2.2 (i := 1) (by unfold vp_in; decide) d31_SignalTheatreLaw_law_110 ?_
  refine W.eq (g2 := F0 m 111 ls [.int (xs 1), .ref x0]) rfl ?_
  refine lv_aload_n hx hb d31_SignalTheatreLaw_law_111 rfl (lv_at hl 4 rfl) ?_
  refine lv_iload hx hb d31_SignalTheatreLaw_law_112 (lv_at hl 0 rfl) ?_
  refine lv_iconst (v := 2) hx hb d31_SignalTheatreLaw_law_114 (by decide) ?_
  refine lv_iadd hx hb d31_SignalTheatreLaw_law_115 ?_
  refine W.eq (g2 := F0 m 116 ls [.int 2, .ref b, .int (xs 1), .ref x0]) rfl ?_
  refine va_sld hx hb hX hbl (Nat.not_le.mpr hbl) I.2.2.2 (i := 2) (by unfold vp_in; decide) d31_SignalTheatreLaw_law_116 ?_
  refine W.eq (g2 := F0 m 117 ls [.int (xs 2), .int (xs 1), .ref x0]) rfl ?_
  refine lv_aload_n hx hb d31_SignalTheatreLaw_law_117 rfl (lv_at hl 4 rfl) ?_
  refine lv_iload hx hb d31_SignalTheatreLaw_law_118 (lv_at hl 0 rfl) ?_
  refine lv_iconst (v := 3) hx hb d31_SignalTheatreLaw_law_120 (by decide) ?_
  refine lv_iadd hx hb d31_SignalTheatreLaw_law_121 ?_
  refine W.eq (g2 := F0 m 122 ls [.int 3, .ref b, .int (xs 2), .int (xs 1), .ref x0]) rfl ?_
  refine va_sld hx hb hX hbl (Nat.not_le.mpr hbl) I.2.2.2 (i := 3) (by unfold vp_in; decide) d31_SignalTheatreLaw_law_122 ?_
  refine W.eq (g2 := F0 m 123 ls [.int (xs 3), .int (xs 2), .int (xs 1), .ref x0]) rfl ?_
  refine lv_aload_n hx hb d31_SignalTheatreLaw_law_123 rfl (lv_at hl 4 rfl) ?_
  refine lv_iload hx hb d31_SignalTheatreLaw_law_124 (lv_at hl 0 rfl) ?_
  refine lv_iconst (v := 4) hx hb d31_SignalTheatreLaw_law_126 (by decide) ?_
  refine lv_iadd hx hb d31_SignalTheatreLaw_law_127 ?_
  refine W.eq (g2 := F0 m 128 ls [.int 4, .ref b, .int (xs 3), .int (xs 2), .int (xs 1), .ref x0]) rfl ?_
  refine va_sld hx hb hX hbl (Nat.not_le.mpr hbl) I.2.2.2 (i := 4) (by unfold vp_in; decide) d31_SignalTheatreLaw_law_128 ?_
  refine W.eq (g2 := F0 m 129 ls [.int (xs 4), .int (xs 3), .int (xs 2), .int (xs 1), .ref x0]) rfl ?_
  refine lv_aload_n hx hb d31_SignalTheatreLaw_law_129 rfl (lv_at hl 4 rfl) ?_
  refine lv_iload hx hb d31_SignalTheatreLaw_law_130 (lv_at hl 0 rfl) ?_
  refine lv_iconst (v := 5) hx hb d31_SignalTheatreLaw_law_132 (by decide) ?_
  refine lv_iadd hx hb d31_SignalTheatreLaw_law_133 ?_
  refine W.eq (g2 := F0 m 134 ls [.int 5, .ref b, .int (xs 4), .int (xs 3), .int (xs 2), .int (xs 1), .ref x0]) rfl ?_
  refine va_sld hx hb hX hbl (Nat.not_le.mpr hbl) I.2.2.2 (i := 5) (by unfold vp_in; decide) d31_SignalTheatreLaw_law_134 ?_
  refine W.eq (g2 := F0 m 135 ls [.int (xs 5), .int (xs 4), .int (xs 3), .int (xs 2), .int (xs 1), .ref x0]) rfl ?_
  refine lv_aload_n hx hb d31_SignalTheatreLaw_law_135 rfl (lv_at hl 1 rfl) ?_
  refine q_goW (wr := [(m0, .inr (13, [.ref m_input, .int 0, .int 0, .int 0, .int (-1), .ref m_tree, .ref m_other, .ref m_now, .ref m_spare, .ref m_circuit, .ref m_old])), (m_input, .inl (cA, 32768, .inl g))]) (tyr := [(cA, .byte)]) C I (q_siteSW (As := [.ref x0, .int (xs 1), .int (xs 2), .int (xs 3), .int (xs 4), .int (xs 5), .ref o0]) (rest := []) C m31_0 m31_2 m31_3 m31_1 ⟨by decide, by decide⟩ (Eq.trans (b := some 7) (by decide +kernel) rfl) rfl d31_SignalTheatreLaw_law_136) (h_feed_ok l D x0 ((xs 1)) ((xs 2)) ((xs 3)) ((xs 4)) ((xs 5)) o0 s_input s_circuit s_spare s_faults s_builder s_stage cI g cO go) m31_1 m31_3 [0, 1, 2] [3, 4] [0, 1] [2] rfl rfl (by decide) (by decide) (by decide) rfl rfl hl.1 d31_SignalTheatreLaw_law_136 (Nat.le_of_ble_eq_true rfl) (Nat.le_of_ble_eq_true rfl) (Nat.le_of_ble_eq_true rfl) (Nat.le_of_ble_eq_true rfl) (fun v w ty H locs hp I => ?_) (fun E w ty H locs q ce hp I hce hcv hcl hX9 => ?_)
  rotate_left
  · obtain ⟨hv, -⟩ := hp; cases hv
  obtain ⟨hv, rfl, rfl⟩ := hp
  cases hv
  have I : q_I D q_cl _ s [(m0, .inr (13, [.ref m_input, .int 0, .int 0, .int 0, .int (-1), .ref m_tree, .ref m_other, .ref m_now, .ref m_spare, .ref m_circuit, .ref m_old])), (m_input, .inl (cA, 32768, .inl g)), (o0, .inl (cO, 1, .inr (.inl (vp_updL go 0 ((nI 20)).toInt64))))] [(cA, .byte), (cO, .long)] H _ := I
  refine W.eq (g2 := F0 m 139 ls [.int 0]) rfl ?_
  refine lv_istore (lv' := [(5, .int 0), (4, .int 0), (3, .ref o0), (2, .ref m0), (1, .ref x0), (0, .ref b)]) hx hb d31_SignalTheatreLaw_law_139 hl (by decide) rfl (fun ls hl => ?_)
  refine lv_aload_n hx hb d31_SignalTheatreLaw_law_141 rfl (lv_at hl 3 rfl) ?_
  refine lv_aload_n hx hb d31_SignalTheatreLaw_law_142 rfl (lv_at hl 5 rfl) ?_
  refine lv_iload hx hb d31_SignalTheatreLaw_law_143 (lv_at hl 1 rfl) ?_
  refine lv_iconst (v := 1) hx hb d31_SignalTheatreLaw_law_145 (by decide) ?_
  refine lv_iadd hx hb d31_SignalTheatreLaw_law_146 ?_
  refine W.eq (g2 := F0 m 147 ls [.int 1, .ref b, .ref m0]) rfl ?_
  refine va_sld hx hb hX hbl (Nat.not_le.mpr hbl) I.2.2.2 (i := 1) (by unfold vp_in; decide) d31_SignalTheatreLaw_law_147 ?_
  refine W.eq (g2 := F0 m 148 ls [.int (xs 1), .ref m0]) rfl ?_
  refine lv_aload_n hx hb d31_SignalTheatreLaw_law_148 rfl (lv_at hl 5 rfl) ?_
  refine lv_iload hx hb d31_SignalTheatreLaw_law_149 (lv_at hl 1 rfl) ?_
  refine lv_iconst (v := 2) hx hb d31_SignalTheatreLaw_law_151 (by decide) ?_
  refine lv_iadd hx hb d31_SignalTheatreLaw_law_152 ?_
  refine W.eq (g2 := F0 m 153 ls [.int 2, .ref b, .int (xs 1), .ref m0]) rfl ?_
  refine va_sld hx hb hX hbl (Nat.not_le.mpr hbl) I.2.2.2 (i := 2) (by unfold vp_in; decide) d31_SignalTheatreLaw_law_153 ?_
  refine W.eq (g2 := F0 m 154 ls [.int (xs 2), .int (xs 1), .ref m0]) rfl ?_
  refine lv_aload_n hx hb d31_SignalTheatreLaw_law_154 rfl (lv_at hl 5 rfl) ?_
  refine lv_iload hx hb d31_SignalTheatreLaw_law_155 (lv_at hl 1 rfl) ?_
  refine lv_iconst (v := 3) hx hb d31_SignalTheatreLaw_law_157 (by decide) ?_
  refine lv_iadd hx hb d31_SignalTheatreLaw_law_158 ?_
  refine W.eq (g2 := F0 m 159 ls [.int 3, .ref b, .int (xs 2), .int (xs 1), .ref m0]) rfl ?_
  refine va_sld hx hb hX hbl (Nat.not_le.mpr hbl) I.2.2.2 (i := 3) (by unfold vp_in; decide) d31_SignalTheatreLaw_law_159 ?_
  refine W.eq (g2 := F0 m 160 ls [.int (xs 3), .int (xs 2), .int (xs 1), .ref m0]) rfl ?_
  refine lv_aload_n hx hb d31_SignalTheatreLaw_law_160 rfl (lv_at hl 5 rfl) ?_
  refine lv_iload hx hb d31_SignalTheatreLaw_law_161 (lv_at hl 1 rfl) ?_
  refine lv_iconst (v := 4) hx hb d31_SignalTheatreLaw_law_163 (by decide) ?_
  refine lv_iadd hx hb d31_SignalTheatreLaw_law_164 ?_
  refine W.eq (g2 := F0 m 165 ls [.int 4, .ref b, .int (xs 3), .int (xs 2), .int (xs 1), .ref m0]) rfl ?_
  refine va_sld hx hb hX hbl (Nat.not_le.mpr hbl) I.2.2.2 (i := 4) (by unfold vp_in; decide) d31_SignalTheatreLaw_law_165 ?_
  refine W.eq (g2 := F0 m 166 ls [.int (xs 4), .int (xs 3), .int (xs 2), .int (xs 1), .ref m0]) rfl ?_
  refine lv_aload_n hx hb d31_SignalTheatreLaw_law_166 rfl (lv_at hl 5 rfl) ?_
  refine lv_iload hx hb d31_SignalTheatreLaw_law_167 (lv_at hl 1 rfl) ?_
  refine lv_iconst (v := 5) hx hb d31_SignalTheatreLaw_law_169 (by decide) ?_
  refine lv_iadd hx hb d31_SignalTheatreLaw_law_170 ?_
  refine W.eq (g2 := F0 m 171 ls [.int 5, .ref b, .int (xs 4), .int (xs 3), .int (xs 2), .int (xs 1), .ref m0]) rfl ?_
  refine va_sld hx hb hX hbl (Nat.not_le.mpr hbl) I.2.2.2 (i := 5) (by unfold vp_in; decide) d31_SignalTheatreLaw_law_171 ?_
  refine W.eq (g2 := F0 m 172 ls [.int (xs 5), .int (xs 4), .int (xs 3), .int (xs 2), .int (xs 1), .ref m0]) rfl ?_
  refine q_go (wr := [(o0, .inl (cO, 1, .inr (.inl (vp_updL go 0 ((nI 20)).toInt64))))]) (tyr := [(cO, .long)]) C I (q_siteV (As := [.int (xs 1), .int (xs 2), .int (xs 3), .int (xs 4), .int (xs 5)]) (rest := []) (q0 := 0) C I rfl rfl m31_4 m31_6 m31_7 m31_5 ⟨by decide, by decide⟩ (Eq.trans (b := some 5) (by decide +kernel) rfl) rfl d31_SignalTheatreLaw_law_172) (c_Mod_feed l D m0 m_input m_tree m_other m_now m_spare m_circuit m_old cA g ((xs 1)) ((xs 2)) ((xs 3)) ((xs 4)) ((xs 5))) m31_5 m31_8 [0, 1] [2] [0] [1] rfl rfl (by decide) (by decide) (by decide) rfl rfl hl.1 d31_SignalTheatreLaw_law_172 (Nat.le_of_ble_eq_true rfl) (Nat.le_of_ble_eq_true rfl) (Nat.le_of_ble_eq_true rfl) (Nat.le_of_ble_eq_true rfl) (fun v w ty H locs hp I => ?_) (fun E w ty H locs q ce hp I hce hcv hcl hX9 => ?_)
  rotate_left
  · obtain ⟨_, _, hv, -⟩ := hp; cases hv
  obtain ⟨fs1, z2, hv, rfl, rfl, hq⟩ := hp
  cases hv
  have ht3 : fs1[2]? = some (.int 0) := hq.1
  have hz : z2 = (nI 20) := Value.int.inj (Option.some.inj hq.2)
  have I : q_I D q_cl _ s [(o0, .inl (cO, 1, .inr (.inl (vp_updL go 0 ((nI 20)).toInt64)))), (m0, .inr (13, fs1))] [(cO, .long)] H _ := I
  refine W.eq (g2 := F0 m 175 ls [.int z2]) rfl ?_
  rw [hz]
  refine lv_istore (lv' := [(6, .int (nI 20)), (5, .int 0), (4, .int 0), (3, .ref o0), (2, .ref m0), (1, .ref x0), (0, .ref b)]) hx hb d31_SignalTheatreLaw_law_175 hl (by decide) rfl (fun ls hl => ?_)
  refine lv_aload_n hx hb d31_SignalTheatreLaw_law_177 rfl (lv_at hl 4 rfl) ?_
  refine q_go (wr := [(o0, .inl (cO, 1, .inr (.inl (vp_updL go 0 ((nI 20)).toInt64))))]) (tyr := [(cO, .long)]) C I (q_siteV (As := []) (rest := []) (q0 := 1) C I rfl rfl m31_9 m31_11 m31_12 m31_10 ⟨by decide, by decide⟩ (Eq.trans (b := some 0) (by decide +kernel) rfl) rfl d31_SignalTheatreLaw_law_178) (c_Mod_thrown l D m0 fs1 0 ht3) m31_10 m31_8 [1] [0] [] [0] rfl rfl (by decide) (by decide) (by decide) rfl rfl hl.1 d31_SignalTheatreLaw_law_178 (Nat.le_of_ble_eq_true rfl) (Nat.le_of_ble_eq_true rfl) (Nat.le_of_ble_eq_true rfl) (Nat.le_of_ble_eq_true rfl) (fun v w ty H locs hp I => ?_) (fun E w ty H locs q ce hp I hce hcv hcl hX9 => ?_)
  rotate_left
  · obtain ⟨hv, -⟩ := hp; cases hv
  obtain ⟨hv, rfl, rfl⟩ := hp
  cases hv
  have I : q_I D q_cl _ s [(o0, .inl (cO, 1, .inr (.inl (vp_updL go 0 ((nI 20)).toInt64)))), (m0, .inr (13, fs1))] [(cO, .long)] H _ := I
  refine W.eq (g2 := F0 m 181 ls [.int 0]) rfl ?_
  refine lv_iload hx hb d31_SignalTheatreLaw_law_181 (lv_at hl 1 rfl) ?_
  refine lv_icmp_eq (tgt := 188) hx hb d31_SignalTheatreLaw_law_183 (by decide) (fun _ => ?_) (fun h => absurd rfl h)
  refine lv_iload hx hb d31_SignalTheatreLaw_law_188 (lv_at hl 1 rfl) ?_
  refine lv_if_ne (tgt := 205) hx hb d31_SignalTheatreLaw_law_190 (by decide) (fun h => absurd h (by decide)) (fun _ => ?_)
  refine lv_aload_n hx hb d31_SignalTheatreLaw_law_193 rfl (lv_at hl 3 rfl) ?_
  refine lv_iconst (v := 0) hx hb d31_SignalTheatreLaw_law_194 (by decide) ?_
  refine q_lald C I 0 0 rfl rfl (by unfold vp_in; decide) d31_SignalTheatreLaw_law_195 ?_
  refine W.eq (g2 := F0 m 196 ls [.long ((nI 20)).toInt64]) rfl ?_
  refine lv_iload hx hb d31_SignalTheatreLaw_law_196 (lv_at hl 0 rfl) ?_
  refine lv_i2l hx hb d31_SignalTheatreLaw_law_198 rfl ?_
  refine W.lcmp hx hb d31_SignalTheatreLaw_law_199 ?_
  refine W.eq (g2 := F0 m 200 ls [.int 0]) (congrArg (fun z => F0 m 200 ls (.int z :: [])) (by simp [lg_cmp])) ?_
  refine lv_if_eq (tgt := 205) hx hb d31_SignalTheatreLaw_law_200 (by decide) (fun _ => ?_) (fun h => absurd h (by decide))
  refine lv_goto (tgt := 868) hx hb d31_SignalTheatreLaw_law_205 (by decide) ?_
  exact W.widen (k := 1300) (n := 5870000) (Nat.le_of_ble_eq_true rfl) (Nat.le_of_ble_eq_true rfl) (kk _ _ _ (q_pick I [] [] rfl (by decide) rfl) (lv_sub hl [2, 6] rfl))
set_option maxHeartbeats 4000000 in
set_option maxRecDepth 100000 in
/-- the law's case end -/
theorem lc_end {p : Program} {l : Launch} {e : Env} {s : State} {m : MethodId} {below : List Frame} {meth : Method} {c : Code} {Q : State → Prop} {D : va_G} {H : Heap} {locs : List Loc} {ls : Array Slot} {b : Nat} {xs : Nat → Int32} {x0 : Nat} {s_input : Nat} {s_circuit : Nat} {s_spare : Nat} {s_faults : Nat} {s_builder : Nat} {s_stage : Nat} {o0 : Nat} {cO : ClassId} {go : Nat → Int64} {m0 : Nat} {m_input : Nat} {m_tree : Nat} {m_other : Nat} {m_now : Nat} {m_spare : Nat} {m_circuit : Nat} {m_old : Nat} (hl9 : l.stackTraces = false) (C : q_C p s m meth c #[Value.ref b] code 8 "SignalTheatreLaw" (lw_A s)) (hX : va_X b 7 xs s s.heap) (hbl : b < s.heap.size) 
    (I : q_I D q_cl (lw_A s) s [(x0, .inr (0, [.ref s_input, .int 0, .int 0, .ref s_circuit, .ref s_spare, .ref s_faults, .ref s_builder, .ref s_stage])), (o0, .inl (cO, 1, .inr (.inl go))), (m0, .inr (13, [.ref m_input, .int 0, .int 0, .int 0, .int (-1), .ref m_tree, .ref m_other, .ref m_now, .ref m_spare, .ref m_circuit, .ref m_old]))] [(cO, .long)] H locs) (hl : lv_has ls 8 [(4, .int 0), (3, .ref o0), (2, .ref m0), (1, .ref x0), (0, .ref b)])
    (kk : ∀ (H : Heap) (locs : List Loc) (ls : Array Slot), q_I D q_cl (lw_A s) s [] [] H locs → lv_has ls 8 [(4, .int 0), (0, .ref b)] → W p l e room_1 s m #[Value.ref b] below meth c H locs 1300 5870000 Q (F0 m 868 ls [])) :
    W p l e room_1 s m #[Value.ref b] below meth c H locs 1170 5867776 Q (F0 m 208 ls []) := by
  have hx := C.1
  have hb := C.2.1
  by_cases hc : xs 1 < 0 ∨ ¬ xs 1 ≤ 0
  · skip
    have ho : o_end (xs 1) = Sum.inr "java/lang/IllegalArgumentException" := if_pos hc
    refine lv_aload_n hx hb d31_SignalTheatreLaw_law_208 rfl (lv_at hl 3 rfl) ?_
    refine lv_aload_n hx hb d31_SignalTheatreLaw_law_209 rfl (lv_at hl 4 rfl) ?_
    refine lv_iload hx hb d31_SignalTheatreLaw_law_210 (lv_at hl 0 rfl) ?_
    refine lv_iconst (v := 1) hx hb d31_SignalTheatreLaw_law_212 (by decide) ?_
    refine lv_iadd hx hb d31_SignalTheatreLaw_law_213 ?_
    refine W.eq (g2 := F0 m 214 ls [.int 1, .ref b, .ref x0]) rfl ?_
    refine va_sld hx hb hX hbl (Nat.not_le.mpr hbl) I.2.2.2 (i := 1) (by unfold vp_in; decide) d31_SignalTheatreLaw_law_214 ?_
    refine W.eq (g2 := F0 m 215 ls [.int (xs 1), .ref x0]) rfl ?_
    refine lv_aload_n hx hb d31_SignalTheatreLaw_law_215 rfl (lv_at hl 1 rfl) ?_
    refine q_goW (wr := [(m0, .inr (13, [.ref m_input, .int 0, .int 0, .int 0, .int (-1), .ref m_tree, .ref m_other, .ref m_now, .ref m_spare, .ref m_circuit, .ref m_old]))]) (tyr := []) C I (q_siteSW (As := [.ref x0, .int (xs 1), .ref o0]) (rest := []) C m31_13 m31_15 m31_3 m31_14 ⟨by decide, by decide⟩ (Eq.trans (b := some 3) (by decide +kernel) rfl) rfl d31_SignalTheatreLaw_law_216) (h_end_ex1 l D hl9 x0 ((xs 1)) o0 s_input s_circuit s_spare s_faults s_builder s_stage cO go ho) m31_14 m31_3 [0, 1] [2] [0] [] rfl rfl (by decide) (by decide) (by decide) rfl rfl hl.1 d31_SignalTheatreLaw_law_216 (Nat.le_of_ble_eq_true rfl) (Nat.le_of_ble_eq_true rfl) (Nat.le_of_ble_eq_true rfl) (Nat.le_of_ble_eq_true rfl) (fun v w ty H locs hp I => ?_) (fun E w ty H locs q ce hp I hce hcv hcl hX9 => ?_)
    rotate_left
    · obtain ⟨hv, -⟩ := hp; cases hv
    obtain ⟨hv, rfl, rfl⟩ := hp
    cases hv
    have I : q_I D q_cl _ s [(m0, .inr (13, [.ref m_input, .int 0, .int 0, .int 0, .int (-1), .ref m_tree, .ref m_other, .ref m_now, .ref m_spare, .ref m_circuit, .ref m_old])), (o0, .inl (cO, 1, .inr (.inl go)))] [(cO, .long)] H _ := I
    refine W.eq (g2 := F0 m 219 ls [.int 1]) rfl ?_
    refine lv_istore (lv' := [(5, .int 1), (4, .int 0), (3, .ref o0), (2, .ref m0), (1, .ref x0), (0, .ref b)]) hx hb d31_SignalTheatreLaw_law_219 hl (by decide) rfl (fun ls hl => ?_)
    refine lv_aload_n hx hb d31_SignalTheatreLaw_law_221 rfl (lv_at hl 3 rfl) ?_
    refine lv_aload_n hx hb d31_SignalTheatreLaw_law_222 rfl (lv_at hl 5 rfl) ?_
    refine lv_iload hx hb d31_SignalTheatreLaw_law_223 (lv_at hl 1 rfl) ?_
    refine lv_iconst (v := 1) hx hb d31_SignalTheatreLaw_law_225 (by decide) ?_
    refine lv_iadd hx hb d31_SignalTheatreLaw_law_226 ?_
    refine W.eq (g2 := F0 m 227 ls [.int 1, .ref b, .ref m0]) rfl ?_
    refine va_sld hx hb hX hbl (Nat.not_le.mpr hbl) I.2.2.2 (i := 1) (by unfold vp_in; decide) d31_SignalTheatreLaw_law_227 ?_
    refine W.eq (g2 := F0 m 228 ls [.int (xs 1), .ref m0]) rfl ?_
    refine q_go (wr := [(o0, .inl (cO, 1, .inr (.inl go)))]) (tyr := [(cO, .long)]) C I (q_siteV (As := [.int (xs 1)]) (rest := []) (q0 := 0) C I rfl rfl m31_16 m31_18 m31_19 m31_17 ⟨by decide, by decide⟩ (Eq.trans (b := some 1) (by decide +kernel) rfl) rfl d31_SignalTheatreLaw_law_228) (c_Mod_end l D m0 m_input m_tree m_other m_now m_spare m_circuit m_old ((xs 1))) m31_17 m31_8 [0] [1] [] [0] rfl rfl (by decide) (by decide) (by decide) rfl rfl hl.1 d31_SignalTheatreLaw_law_228 (Nat.le_of_ble_eq_true rfl) (Nat.le_of_ble_eq_true rfl) (Nat.le_of_ble_eq_true rfl) (Nat.le_of_ble_eq_true rfl) (fun v w ty H locs hp I => ?_) (fun E w ty H locs q ce hp I hce hcv hcl hX9 => ?_)
    rotate_left
    · obtain ⟨_, _, hv, -⟩ := hp; cases hv
    obtain ⟨fs1, z2, hv, rfl, rfl, hq⟩ := hp
    cases hv
    rw [ho] at hq
    have ht3 : fs1[2]? = some (.int 1) := hq
    have I : q_I D q_cl _ s [(o0, .inl (cO, 1, .inr (.inl go))), (m0, .inr (13, fs1))] [(cO, .long)] H _ := I
    refine W.eq (g2 := F0 m 231 ls [.int z2]) rfl ?_
    refine lv_istore (lv' := [(6, .int z2), (5, .int 1), (4, .int 0), (3, .ref o0), (2, .ref m0), (1, .ref x0), (0, .ref b)]) hx hb d31_SignalTheatreLaw_law_231 hl (by decide) rfl (fun ls hl => ?_)
    refine lv_aload_n hx hb d31_SignalTheatreLaw_law_233 rfl (lv_at hl 4 rfl) ?_
    refine q_go (wr := [(o0, .inl (cO, 1, .inr (.inl go)))]) (tyr := [(cO, .long)]) C I (q_siteV (As := []) (rest := []) (q0 := 1) C I rfl rfl m31_9 m31_11 m31_12 m31_10 ⟨by decide, by decide⟩ (Eq.trans (b := some 0) (by decide +kernel) rfl) rfl d31_SignalTheatreLaw_law_234) (c_Mod_thrown l D m0 fs1 1 ht3) m31_10 m31_8 [1] [0] [] [0] rfl rfl (by decide) (by decide) (by decide) rfl rfl hl.1 d31_SignalTheatreLaw_law_234 (Nat.le_of_ble_eq_true rfl) (Nat.le_of_ble_eq_true rfl) (Nat.le_of_ble_eq_true rfl) (Nat.le_of_ble_eq_true rfl) (fun v w ty H locs hp I => ?_) (fun E w ty H locs q ce hp I hce hcv hcl hX9 => ?_)
    rotate_left
    · obtain ⟨hv, -⟩ := hp; cases hv
    obtain ⟨hv, rfl, rfl⟩ := hp
    cases hv
    have I : q_I D q_cl _ s [(o0, .inl (cO, 1, .inr (.inl go))), (m0, .inr (13, fs1))] [(cO, .long)] H _ := I
    refine W.eq (g2 := F0 m 237 ls [.int 1]) rfl ?_
    refine lv_iload hx hb d31_SignalTheatreLaw_law_237 (lv_at hl 1 rfl) ?_
    refine lv_icmp_eq (tgt := 244) hx hb d31_SignalTheatreLaw_law_239 (by decide) (fun _ => ?_) (fun h => absurd rfl h)
    refine lv_iload hx hb d31_SignalTheatreLaw_law_244 (lv_at hl 1 rfl) ?_
    refine lv_if_ne (tgt := 261) hx hb d31_SignalTheatreLaw_law_246 (by decide) (fun _ => ?_) (fun h => absurd h (by decide))
    refine lv_goto (tgt := 868) hx hb d31_SignalTheatreLaw_law_261 (by decide) ?_
    exact W.widen (k := 1300) (n := 5870000) (Nat.le_of_ble_eq_true rfl) (Nat.le_of_ble_eq_true rfl) (kk _ _ _ (q_pick I [] [] rfl (by decide) rfl) (lv_sub hl [2, 6] rfl))
  · skip
    have ho : o_end (xs 1) = Sum.inl (some (.int (0 - xs 1))) := if_neg hc
    refine lv_aload_n hx hb d31_SignalTheatreLaw_law_208 rfl (lv_at hl 3 rfl) ?_
    refine lv_aload_n hx hb d31_SignalTheatreLaw_law_209 rfl (lv_at hl 4 rfl) ?_
    refine lv_iload hx hb d31_SignalTheatreLaw_law_210 (lv_at hl 0 rfl) ?_
    refine lv_iconst (v := 1) hx hb d31_SignalTheatreLaw_law_212 (by decide) ?_
    refine lv_iadd hx hb d31_SignalTheatreLaw_law_213 ?_
    refine W.eq (g2 := F0 m 214 ls [.int 1, .ref b, .ref x0]) rfl ?_
    refine va_sld hx hb hX hbl (Nat.not_le.mpr hbl) I.2.2.2 (i := 1) (by unfold vp_in; decide) d31_SignalTheatreLaw_law_214 ?_
    refine W.eq (g2 := F0 m 215 ls [.int (xs 1), .ref x0]) rfl ?_
    refine lv_aload_n hx hb d31_SignalTheatreLaw_law_215 rfl (lv_at hl 1 rfl) ?_
    refine q_goW (wr := [(m0, .inr (13, [.ref m_input, .int 0, .int 0, .int 0, .int (-1), .ref m_tree, .ref m_other, .ref m_now, .ref m_spare, .ref m_circuit, .ref m_old]))]) (tyr := []) C I (q_siteSW (As := [.ref x0, .int (xs 1), .ref o0]) (rest := []) C m31_13 m31_15 m31_3 m31_14 ⟨by decide, by decide⟩ (Eq.trans (b := some 3) (by decide +kernel) rfl) rfl d31_SignalTheatreLaw_law_216) (h_end_ok l D hl9 x0 ((xs 1)) o0 s_input s_circuit s_spare s_faults s_builder s_stage cO go (0 - xs 1) ho) m31_14 m31_3 [0, 1] [2] [0] [] rfl rfl (by decide) (by decide) (by decide) rfl rfl hl.1 d31_SignalTheatreLaw_law_216 (Nat.le_of_ble_eq_true rfl) (Nat.le_of_ble_eq_true rfl) (Nat.le_of_ble_eq_true rfl) (Nat.le_of_ble_eq_true rfl) (fun v w ty H locs hp I => ?_) (fun E w ty H locs q ce hp I hce hcv hcl hX9 => ?_)
    rotate_left
    · obtain ⟨hv, -⟩ := hp; cases hv
    obtain ⟨hv, rfl, rfl⟩ := hp
    cases hv
    have I : q_I D q_cl _ s [(m0, .inr (13, [.ref m_input, .int 0, .int 0, .int 0, .int (-1), .ref m_tree, .ref m_other, .ref m_now, .ref m_spare, .ref m_circuit, .ref m_old])), (o0, .inl (cO, 1, .inr (.inl (vp_updL go 0 (0 - xs 1).toInt64))))] [(cO, .long)] H _ := I
    refine W.eq (g2 := F0 m 219 ls [.int 0]) rfl ?_
    refine lv_istore (lv' := [(5, .int 0), (4, .int 0), (3, .ref o0), (2, .ref m0), (1, .ref x0), (0, .ref b)]) hx hb d31_SignalTheatreLaw_law_219 hl (by decide) rfl (fun ls hl => ?_)
    refine lv_aload_n hx hb d31_SignalTheatreLaw_law_221 rfl (lv_at hl 3 rfl) ?_
    refine lv_aload_n hx hb d31_SignalTheatreLaw_law_222 rfl (lv_at hl 5 rfl) ?_
    refine lv_iload hx hb d31_SignalTheatreLaw_law_223 (lv_at hl 1 rfl) ?_
    refine lv_iconst (v := 1) hx hb d31_SignalTheatreLaw_law_225 (by decide) ?_
    refine lv_iadd hx hb d31_SignalTheatreLaw_law_226 ?_
    refine W.eq (g2 := F0 m 227 ls [.int 1, .ref b, .ref m0]) rfl ?_
    refine va_sld hx hb hX hbl (Nat.not_le.mpr hbl) I.2.2.2 (i := 1) (by unfold vp_in; decide) d31_SignalTheatreLaw_law_227 ?_
    refine W.eq (g2 := F0 m 228 ls [.int (xs 1), .ref m0]) rfl ?_
    refine q_go (wr := [(o0, .inl (cO, 1, .inr (.inl (vp_updL go 0 (0 - xs 1).toInt64))))]) (tyr := [(cO, .long)]) C I (q_siteV (As := [.int (xs 1)]) (rest := []) (q0 := 0) C I rfl rfl m31_16 m31_18 m31_19 m31_17 ⟨by decide, by decide⟩ (Eq.trans (b := some 1) (by decide +kernel) rfl) rfl d31_SignalTheatreLaw_law_228) (c_Mod_end l D m0 m_input m_tree m_other m_now m_spare m_circuit m_old ((xs 1))) m31_17 m31_8 [0] [1] [] [0] rfl rfl (by decide) (by decide) (by decide) rfl rfl hl.1 d31_SignalTheatreLaw_law_228 (Nat.le_of_ble_eq_true rfl) (Nat.le_of_ble_eq_true rfl) (Nat.le_of_ble_eq_true rfl) (Nat.le_of_ble_eq_true rfl) (fun v w ty H locs hp I => ?_) (fun E w ty H locs q ce hp I hce hcv hcl hX9 => ?_)
    rotate_left
    · obtain ⟨_, _, hv, -⟩ := hp; cases hv
    obtain ⟨fs4, z5, hv, rfl, rfl, hq⟩ := hp
    cases hv
    rw [ho] at hq
    have ht6 : fs4[2]? = some (.int 0) := hq.1
    have hz : z5 = (0 - xs 1) := Value.int.inj (Option.some.inj hq.2)
    have I : q_I D q_cl _ s [(o0, .inl (cO, 1, .inr (.inl (vp_updL go 0 (0 - xs 1).toInt64)))), (m0, .inr (13, fs4))] [(cO, .long)] H _ := I
    refine W.eq (g2 := F0 m 231 ls [.int z5]) rfl ?_
    rw [hz]
    refine lv_istore (lv' := [(6, .int (0 - xs 1)), (5, .int 0), (4, .int 0), (3, .ref o0), (2, .ref m0), (1, .ref x0), (0, .ref b)]) hx hb d31_SignalTheatreLaw_law_231 hl (by decide) rfl (fun ls hl => ?_)
    refine lv_aload_n hx hb d31_SignalTheatreLaw_law_233 rfl (lv_at hl 4 rfl) ?_
    refine q_go (wr := [(o0, .inl (cO, 1, .inr (.inl (vp_updL go 0 (0 - xs 1).toInt64))))]) (tyr := [(cO, .long)]) C I (q_siteV (As := []) (rest := []) (q0 := 1) C I rfl rfl m31_9 m31_11 m31_12 m31_10 ⟨by decide, by decide⟩ (Eq.trans (b := some 0) (by decide +kernel) rfl) rfl d31_SignalTheatreLaw_law_234) (c_Mod_thrown l D m0 fs4 0 ht6) m31_10 m31_8 [1] [0] [] [0] rfl rfl (by decide) (by decide) (by decide) rfl rfl hl.1 d31_SignalTheatreLaw_law_234 (Nat.le_of_ble_eq_true rfl) (Nat.le_of_ble_eq_true rfl) (Nat.le_of_ble_eq_true rfl) (Nat.le_of_ble_eq_true rfl) (fun v w ty H locs hp I => ?_) (fun E w ty H locs q ce hp I hce hcv hcl hX9 => ?_)
    rotate_left
    · obtain ⟨hv, -⟩ := hp; cases hv
    obtain ⟨hv, rfl, rfl⟩ := hp
    cases hv
    have I : q_I D q_cl _ s [(o0, .inl (cO, 1, .inr (.inl (vp_updL go 0 (0 - xs 1).toInt64)))), (m0, .inr (13, fs4))] [(cO, .long)] H _ := I
    refine W.eq (g2 := F0 m 237 ls [.int 0]) rfl ?_
    refine lv_iload hx hb d31_SignalTheatreLaw_law_237 (lv_at hl 1 rfl) ?_
    refine lv_icmp_eq (tgt := 244) hx hb d31_SignalTheatreLaw_law_239 (by decide) (fun _ => ?_) (fun h => absurd rfl h)
    refine lv_iload hx hb d31_SignalTheatreLaw_law_244 (lv_at hl 1 rfl) ?_
    refine lv_if_ne (tgt := 261) hx hb d31_SignalTheatreLaw_law_246 (by decide) (fun h => absurd h (by decide)) (fun _ => ?_)
    refine lv_aload_n hx hb d31_SignalTheatreLaw_law_249 rfl (lv_at hl 3 rfl) ?_
    refine lv_iconst (v := 0) hx hb d31_SignalTheatreLaw_law_250 (by decide) ?_
    refine q_lald C I 0 0 rfl rfl (by unfold vp_in; decide) d31_SignalTheatreLaw_law_251 ?_
    refine W.eq (g2 := F0 m 252 ls [.long (0 - xs 1).toInt64]) rfl ?_
    refine lv_iload hx hb d31_SignalTheatreLaw_law_252 (lv_at hl 0 rfl) ?_
    refine lv_i2l hx hb d31_SignalTheatreLaw_law_254 rfl ?_
    refine W.lcmp hx hb d31_SignalTheatreLaw_law_255 ?_
    refine W.eq (g2 := F0 m 256 ls [.int 0]) (congrArg (fun z => F0 m 256 ls (.int z :: [])) (by simp [lg_cmp])) ?_
    refine lv_if_eq (tgt := 261) hx hb d31_SignalTheatreLaw_law_256 (by decide) (fun _ => ?_) (fun h => absurd h (by decide))
    refine lv_goto (tgt := 868) hx hb d31_SignalTheatreLaw_law_261 (by decide) ?_
    exact W.widen (k := 1300) (n := 5870000) (Nat.le_of_ble_eq_true rfl) (Nat.le_of_ble_eq_true rfl) (kk _ _ _ (q_pick I [] [] rfl (by decide) rfl) (lv_sub hl [2, 6] rfl))
set_option maxHeartbeats 4000000 in
set_option maxRecDepth 100000 in
/-- the law's case build -/
theorem lc_build {p : Program} {l : Launch} {e : Env} {s : State} {m : MethodId} {below : List Frame} {meth : Method} {c : Code} {Q : State → Prop} {D : va_G} {H : Heap} {locs : List Loc} {ls : Array Slot} {b : Nat} {xs : Nat → Int32} {x0 : Nat} {q1 : Nat} {q36 : Nat} {q67 : Nat} {q19 : Nat} {q98 : Nat} {q108 : Nat} {cA2 : ClassId} {g_q1 : Nat → Int32} {q3 : Nat} {q68 : Nat} {q69 : Nat} {q70 : Nat} {q71 : Nat} {q72 : Nat} {q73 : Nat} {q74 : Nat} {q75 : Nat} {q76 : Nat} {q77 : Nat} {q78 : Nat} {q79 : Nat} {q80 : Nat} {q81 : Nat} {cA82 : ClassId} {g_q68 : Nat → Int32} {q83 : Nat} {q84 : Nat} {q85 : Nat} {q86 : Nat} {q87 : Nat} {q88 : Nat} {q89 : Nat} {q90 : Nat} {q91 : Nat} {q92 : Nat} {q93 : Nat} {q94 : Nat} {q95 : Nat} {q96 : Nat} {q97 : Nat} {q20 : Nat} {q31 : Nat} {q99 : Nat} {q100 : Nat} {q101 : Nat} {q102 : Nat} {q103 : Nat} {q104 : Nat} {q105 : Nat} {cA106 : ClassId} {g_q100 : Nat → Int32} {cA107 : ClassId} {g_q102 : Nat → Int32} {q4 : Nat} {q5 : Nat} {q6 : Nat} {q7 : Nat} {q8 : Nat} {q9 : Nat} {q10 : Nat} {q11 : Nat} {q12 : Nat} {q13 : Nat} {q14 : Nat} {cA15 : ClassId} {g_q4 : Nat → Int32} {cA16 : ClassId} {g_q5 : Nat → Int32} {cA17 : ClassId} {g_q6 : Nat → Int32} {cA18 : ClassId} {g_q7 : Nat → Int32} {q21 : Nat} {q24 : Nat} {q25 : Nat} {q26 : Nat} {q27 : Nat} {q28 : Nat} {q29 : Nat} {cA30 : ClassId} {g_q24 : Nat → Int32} {q32 : Nat} {o0 : Nat} {cO : ClassId} {go : Nat → Int64} {m0 : Nat} {m_input : Nat} {m_tree : Nat} {m_other : Nat} {m_now : Nat} {m_spare : Nat} {m_circuit : Nat} {m_old : Nat} {t_cut : Nat} {t_sort : Nat} {t_a : Nat} {t_b : Nat} {t_c : Nat} {t_d : Nat} {t_next : Nat} {t_token : Nat} {t_low : Nat} {t_first : Nat} {t_wrong : Nat} {k_text : Nat} {k_kind : Nat} {k_from : Nat} {k_to : Nat} {k_width : Nat} {k_ones : Nat} {k_unknown : Nat} {k_signed : Nat} {cA_kind : ClassId} {g_kind : Nat → Int32} {cA_from : ClassId} {g_from : Nat → Int32} {cA_to : ClassId} {g_to : Nat → Int32} {vv0 : Value} {vv1 : Value} {vv2 : Value} {vv3 : Value} {vv4 : Value} {vv7 : Value} (hl9 : l.stackTraces = false) (C : q_C p s m meth c #[Value.ref b] code 8 "SignalTheatreLaw" (lw_A s)) (hX : va_X b 7 xs s s.heap) (hbl : b < s.heap.size) 
    (I : q_I D q_cl (lw_A s) s [(x0, .inr (0, [.ref q1, .int 0, .int 0, .ref q36, .ref q67, .ref q19, .ref q98, .ref q108])), (q1, .inl (cA2, 32768, .inl g_q1)), (q19, .inr (2, [.ref q3, .int 0, .int (-1), .int 0, .int 0, .int 0, .int 0])), (q67, .inr (6, [.ref q68, .ref q69, .ref q70, .int 0, .ref q71, .ref q72, .int 0, .int 0, .ref q73, .ref q74, .ref q75, .int 0, .ref q76, .ref q77, .ref q78, .int 0, .ref q79, .int 0, .ref q80, .ref q81])), (q68, .inl (cA82, 32768, .inl g_q68)), (q69, .inr (7, [.ref q83, .ref q84, .ref q85, .ref q86, .ref q87, .int 0, .ref q88, .ref q89, .int 0, .ref q90, .ref q91, .ref q92, .ref q93, .ref q94, .ref q95, .ref q96, .int 0, .ref q97, .int 0, .int 0])), (q98, .inr (9, [.ref q3, .ref q19, .ref q20, .ref q31, .null, .ref q99, .ref q100, .ref q101, .int 0, .ref q102, .int 0, .int 0, .ref q103, .ref q104, .ref q105, .int 0, .int 0, .int 0])), (q100, .inl (cA106, 1821, .inl g_q100)), (q102, .inl (cA107, 16385, .inl g_q102)), (q3, .inr (1, [.null, .int 0, .ref q4, .ref q5, .ref q6, .int 0, .ref q7, .ref q8, .ref q9, .ref q10, .ref q11, .int 0, .ref q12, .ref q13, .ref q14, .int 0, .long 0, .long 0, .int 0, .int 0])), (q4, .inl (cA15, 32769, .inl g_q4)), (q5, .inl (cA16, 32769, .inl g_q5)), (q6, .inl (cA17, 32769, .inl g_q6)), (q7, .inl (cA18, 1024, .inl g_q7)), (q20, .inr (3, [.ref q3, .ref q19, .ref q21, .null, .null, .int 0, .int 0, .int 0, .int 0, .int 0, .int 0, .ref q24, .ref q25, .ref q26, .ref q27, .ref q28, .ref q29, .int 0])), (q24, .inl (cA30, 16385, .inl g_q24)), (q31, .inr (5, [.ref q3, .ref q19, .ref q20, .ref q32, .int 0, .int 0, .int 0, .long 0, .long 0])), (o0, .inl (cO, 1, .inr (.inl go))), (m0, .inr (13, [.ref m_input, .int 0, .int 0, .int 0, .int (-1), .ref m_tree, .ref m_other, .ref m_now, .ref m_spare, .ref m_circuit, .ref m_old])), (m_spare, .inr (14, [.ref t_cut, .ref t_sort, .ref t_a, .ref t_b, .ref t_c, .ref t_d, .ref t_next, .ref t_token, .ref t_low, .ref t_first, .int 0, .int 0, .int 0, .int 0, .ref t_wrong])), (t_cut, .inr (15, [.ref k_text, .int 0, .int 0, .int 0, .ref k_kind, .ref k_from, .ref k_to, .ref k_width, .ref k_ones, .ref k_unknown, .ref k_signed, .int 0, .long 0, .long 0, .long 0, .int 0, .int 0])), (k_kind, .inl (cA_kind, 32800, .inl g_kind)), (k_from, .inl (cA_from, 32800, .inl g_from)), (k_to, .inl (cA_to, 32800, .inl g_to)), (t_wrong, .inr (16, [vv0, vv1, vv2, vv3, vv4, .int 0, .int 0, vv7]))] [(cA2, .byte), (cA82, .byte), (cA106, .int), (cA107, .int), (cA15, .int), (cA16, .int), (cA17, .int), (cA18, .int), (cA30, .int), (cO, .long), (cA_kind, .int), (cA_from, .int), (cA_to, .int)] H locs) (hl : lv_has ls 8 [(4, .int 0), (3, .ref o0), (2, .ref m0), (1, .ref x0), (0, .ref b)])
    (kk : ∀ (H : Heap) (locs : List Loc) (ls : Array Slot), q_I D q_cl (lw_A s) s [] [] H locs → lv_has ls 8 [(4, .int 0), (0, .ref b)] → W p l e room_1 s m #[Value.ref b] below meth c H locs 1300 5870000 Q (F0 m 868 ls [])) :
    W p l e room_1 s m #[Value.ref b] below meth c H locs 1170 5867776 Q (F0 m 264 ls []) := by
  have hx := C.1
  have hb := C.2.1
  refine lv_aload_n hx hb d31_SignalTheatreLaw_law_264 rfl (lv_at hl 3 rfl) ?_
  refine lv_aload_n hx hb d31_SignalTheatreLaw_law_265 rfl (lv_at hl 1 rfl) ?_
  refine q_goW (wr := [(m0, .inr (13, [.ref m_input, .int 0, .int 0, .int 0, .int (-1), .ref m_tree, .ref m_other, .ref m_now, .ref m_spare, .ref m_circuit, .ref m_old])), (m_spare, .inr (14, [.ref t_cut, .ref t_sort, .ref t_a, .ref t_b, .ref t_c, .ref t_d, .ref t_next, .ref t_token, .ref t_low, .ref t_first, .int 0, .int 0, .int 0, .int 0, .ref t_wrong])), (t_cut, .inr (15, [.ref k_text, .int 0, .int 0, .int 0, .ref k_kind, .ref k_from, .ref k_to, .ref k_width, .ref k_ones, .ref k_unknown, .ref k_signed, .int 0, .long 0, .long 0, .long 0, .int 0, .int 0])), (k_kind, .inl (cA_kind, 32800, .inl g_kind)), (k_from, .inl (cA_from, 32800, .inl g_from)), (k_to, .inl (cA_to, 32800, .inl g_to)), (t_wrong, .inr (16, [vv0, vv1, vv2, vv3, vv4, .int 0, .int 0, vv7]))]) (tyr := [(cA_kind, .int), (cA_from, .int), (cA_to, .int)]) C I (q_siteSW (As := [.ref x0, .ref o0]) (rest := []) C m31_20 m31_22 m31_3 m31_21 ⟨by decide, by decide⟩ (Eq.trans (b := some 2) (by decide +kernel) rfl) rfl d31_SignalTheatreLaw_law_266) (h_build_ex1 l D hl9 x0 o0 q1 q36 q67 q19 q98 q108 cA2 g_q1 q3 q68 q69 q70 q71 q72 q73 q74 q75 q76 q77 q78 q79 q80 q81 cA82 g_q68 q83 q84 q85 q86 q87 q88 q89 q90 q91 q92 q93 q94 q95 q96 q97 q20 q31 q99 q100 q101 q102 q103 q104 q105 cA106 g_q100 cA107 g_q102 q4 q5 q6 q7 q8 q9 q10 q11 q12 q13 q14 cA15 g_q4 cA16 g_q5 cA17 g_q6 cA18 g_q7 q21 q24 q25 q26 q27 q28 q29 cA30 g_q24 q32 cO go) m31_21 m31_3 [0, 1, 2, 3, 4, 5, 6, 7, 8, 9, 10, 11, 12, 13, 14, 15, 16, 17] [18, 19, 20, 21, 22, 23, 24] [0, 1, 2, 3, 4, 5, 6, 7, 8, 9] [10, 11, 12] rfl rfl (by decide) (by decide) (by decide) rfl rfl hl.1 d31_SignalTheatreLaw_law_266 (Nat.le_of_ble_eq_true rfl) (Nat.le_of_ble_eq_true rfl) (Nat.le_of_ble_eq_true rfl) (Nat.le_of_ble_eq_true rfl) (fun v w ty H locs hp I => ?_) (fun E w ty H locs q ce hp I hce hcv hcl hX9 => ?_)
  rotate_left
  · obtain ⟨hv, -⟩ := hp; cases hv
  obtain ⟨hv, rfl, rfl⟩ := hp
  cases hv
  have I : q_I D q_cl _ s [(m0, .inr (13, [.ref m_input, .int 0, .int 0, .int 0, .int (-1), .ref m_tree, .ref m_other, .ref m_now, .ref m_spare, .ref m_circuit, .ref m_old])), (m_spare, .inr (14, [.ref t_cut, .ref t_sort, .ref t_a, .ref t_b, .ref t_c, .ref t_d, .ref t_next, .ref t_token, .ref t_low, .ref t_first, .int 0, .int 0, .int 0, .int 0, .ref t_wrong])), (t_cut, .inr (15, [.ref k_text, .int 0, .int 0, .int 0, .ref k_kind, .ref k_from, .ref k_to, .ref k_width, .ref k_ones, .ref k_unknown, .ref k_signed, .int 0, .long 0, .long 0, .long 0, .int 0, .int 0])), (k_kind, .inl (cA_kind, 32800, .inl g_kind)), (k_from, .inl (cA_from, 32800, .inl g_from)), (k_to, .inl (cA_to, 32800, .inl g_to)), (t_wrong, .inr (16, [vv0, vv1, vv2, vv3, vv4, .int 0, .int 0, vv7])), (o0, .inl (cO, 1, .inr (.inl go)))] [(cA_kind, .int), (cA_from, .int), (cA_to, .int), (cO, .long)] H _ := I
  refine W.eq (g2 := F0 m 269 ls [.int 1]) rfl ?_
  refine lv_istore (lv' := [(5, .int 1), (4, .int 0), (3, .ref o0), (2, .ref m0), (1, .ref x0), (0, .ref b)]) hx hb d31_SignalTheatreLaw_law_269 hl (by decide) rfl (fun ls hl => ?_)
  refine lv_aload_n hx hb d31_SignalTheatreLaw_law_271 rfl (lv_at hl 3 rfl) ?_
  refine q_goW (wr := [(o0, .inl (cO, 1, .inr (.inl go)))]) (tyr := [(cO, .long)]) C I (q_siteVW (As := []) (rest := []) (q0 := 0) C I rfl rfl m31_23 m31_25 m31_26 m31_24 ⟨by decide, by decide⟩ (Eq.trans (b := some 0) (by decide +kernel) rfl) rfl d31_SignalTheatreLaw_law_272) (c_Mod_build l D m0 m_input m_tree m_other m_now m_spare m_circuit m_old t_cut t_sort t_a t_b t_c t_d t_next t_token t_low t_first t_wrong k_text k_kind k_from k_to k_width k_ones k_unknown k_signed cA_kind g_kind cA_from g_from cA_to g_to vv0 vv1 vv2 vv3 vv4 vv7) m31_24 m31_8 [0, 1, 2, 3, 4, 5, 6] [7] [0, 1, 2] [3] rfl rfl (by decide) (by decide) (by decide) rfl rfl hl.1 d31_SignalTheatreLaw_law_272 (Nat.le_of_ble_eq_true rfl) (Nat.le_of_ble_eq_true rfl) (Nat.le_of_ble_eq_true rfl) (Nat.le_of_ble_eq_true rfl) (fun v w ty H locs hp I => ?_) (fun E w ty H locs q ce hp I hce hcv hcl hX9 => ?_)
  rotate_left
  · obtain ⟨_, _, hv, -⟩ := hp; cases hv
  obtain ⟨fs1, z2, hv, rfl, rfl, hq⟩ := hp
  cases hv
  have ht3 : fs1[2]? = some (.int 1) := hq
  have I : q_I D q_cl _ s [(o0, .inl (cO, 1, .inr (.inl go))), (m0, .inr (13, fs1))] [(cO, .long)] H _ := I
  refine W.eq (g2 := F0 m 275 ls [.int z2]) rfl ?_
  refine lv_istore (lv' := [(6, .int z2), (5, .int 1), (4, .int 0), (3, .ref o0), (2, .ref m0), (1, .ref x0), (0, .ref b)]) hx hb d31_SignalTheatreLaw_law_275 hl (by decide) rfl (fun ls hl => ?_)
  refine lv_aload_n hx hb d31_SignalTheatreLaw_law_277 rfl (lv_at hl 4 rfl) ?_
  refine q_go (wr := [(o0, .inl (cO, 1, .inr (.inl go)))]) (tyr := [(cO, .long)]) C I (q_siteV (As := []) (rest := []) (q0 := 1) C I rfl rfl m31_9 m31_11 m31_12 m31_10 ⟨by decide, by decide⟩ (Eq.trans (b := some 0) (by decide +kernel) rfl) rfl d31_SignalTheatreLaw_law_278) (c_Mod_thrown l D m0 fs1 1 ht3) m31_10 m31_8 [1] [0] [] [0] rfl rfl (by decide) (by decide) (by decide) rfl rfl hl.1 d31_SignalTheatreLaw_law_278 (Nat.le_of_ble_eq_true rfl) (Nat.le_of_ble_eq_true rfl) (Nat.le_of_ble_eq_true rfl) (Nat.le_of_ble_eq_true rfl) (fun v w ty H locs hp I => ?_) (fun E w ty H locs q ce hp I hce hcv hcl hX9 => ?_)
  rotate_left
  · obtain ⟨hv, -⟩ := hp; cases hv
  obtain ⟨hv, rfl, rfl⟩ := hp
  cases hv
  have I : q_I D q_cl _ s [(o0, .inl (cO, 1, .inr (.inl go))), (m0, .inr (13, fs1))] [(cO, .long)] H _ := I
  refine W.eq (g2 := F0 m 281 ls [.int 1]) rfl ?_
  refine lv_iload hx hb d31_SignalTheatreLaw_law_281 (lv_at hl 1 rfl) ?_
  refine lv_icmp_eq (tgt := 288) hx hb d31_SignalTheatreLaw_law_283 (by decide) (fun _ => ?_) (fun h => absurd rfl h)
  refine lv_iload hx hb d31_SignalTheatreLaw_law_288 (lv_at hl 1 rfl) ?_
  refine lv_if_ne (tgt := 305) hx hb d31_SignalTheatreLaw_law_290 (by decide) (fun _ => ?_) (fun h => absurd h (by decide))
  refine lv_goto (tgt := 868) hx hb d31_SignalTheatreLaw_law_305 (by decide) ?_
  exact W.widen (k := 1300) (n := 5870000) (Nat.le_of_ble_eq_true rfl) (Nat.le_of_ble_eq_true rfl) (kk _ _ _ (q_pick I [] [] rfl (by decide) rfl) (lv_sub hl [2, 6] rfl))
set_option maxHeartbeats 4000000 in
set_option maxRecDepth 100000 in
/-- the law's case fault -/
theorem lc_fault {p : Program} {l : Launch} {e : Env} {s : State} {m : MethodId} {below : List Frame} {meth : Method} {c : Code} {Q : State → Prop} {D : va_G} {H : Heap} {locs : List Loc} {ls : Array Slot} {b : Nat} {xs : Nat → Int32} {x0 : Nat} {s_input : Nat} {s_circuit : Nat} {s_spare : Nat} {s_faults : Nat} {s_builder : Nat} {s_stage : Nat} {f0 : Nat} {f3 : Int32} {f4 : Int32} {f5 : Int32} {f6 : Int32} {o0 : Nat} {cO : ClassId} {go : Nat → Int64} {m0 : Nat} {m_input : Nat} {m_tree : Nat} {m_other : Nat} {m_now : Nat} {m_spare : Nat} {m_circuit : Nat} {m_old : Nat} (hl9 : l.stackTraces = false) (C : q_C p s m meth c #[Value.ref b] code 8 "SignalTheatreLaw" (lw_A s)) (hX : va_X b 7 xs s s.heap) (hbl : b < s.heap.size) 
    (I : q_I D q_cl (lw_A s) s [(x0, .inr (0, [.ref s_input, .int 0, .int 0, .ref s_circuit, .ref s_spare, .ref s_faults, .ref s_builder, .ref s_stage])), (s_faults, .inr (2, [.ref f0, .int 0, .int (-1), .int f3, .int f4, .int f5, .int f6])), (o0, .inl (cO, 1, .inr (.inl go))), (m0, .inr (13, [.ref m_input, .int 0, .int 0, .int 0, .int (-1), .ref m_tree, .ref m_other, .ref m_now, .ref m_spare, .ref m_circuit, .ref m_old]))] [(cO, .long)] H locs) (hl : lv_has ls 8 [(4, .int 0), (3, .ref o0), (2, .ref m0), (1, .ref x0), (0, .ref b)])
    (kk : ∀ (H : Heap) (locs : List Loc) (ls : Array Slot), q_I D q_cl (lw_A s) s [] [] H locs → lv_has ls 8 [(4, .int 0), (0, .ref b)] → W p l e room_1 s m #[Value.ref b] below meth c H locs 1300 5870000 Q (F0 m 868 ls [])) :
    W p l e room_1 s m #[Value.ref b] below meth c H locs 1170 5867776 Q (F0 m 308 ls []) := by
  have hx := C.1
  have hb := C.2.1
  by_cases hc : xs 1 < 0 ∨ ¬ xs 1 ≤ 1
  · skip
    have ho : o_fault (xs 1) = Sum.inr "java/lang/IllegalArgumentException" := if_pos hc
    refine lv_aload_n hx hb d31_SignalTheatreLaw_law_308 rfl (lv_at hl 3 rfl) ?_
    refine lv_aload_n hx hb d31_SignalTheatreLaw_law_309 rfl (lv_at hl 4 rfl) ?_
    refine lv_iload hx hb d31_SignalTheatreLaw_law_310 (lv_at hl 0 rfl) ?_
    refine lv_iconst (v := 1) hx hb d31_SignalTheatreLaw_law_312 (by decide) ?_
    refine lv_iadd hx hb d31_SignalTheatreLaw_law_313 ?_
    refine W.eq (g2 := F0 m 314 ls [.int 1, .ref b, .ref x0]) rfl ?_
    refine va_sld hx hb hX hbl (Nat.not_le.mpr hbl) I.2.2.2 (i := 1) (by unfold vp_in; decide) d31_SignalTheatreLaw_law_314 ?_
    refine W.eq (g2 := F0 m 315 ls [.int (xs 1), .ref x0]) rfl ?_
    refine lv_aload_n hx hb d31_SignalTheatreLaw_law_315 rfl (lv_at hl 1 rfl) ?_
    refine q_goW (wr := [(m0, .inr (13, [.ref m_input, .int 0, .int 0, .int 0, .int (-1), .ref m_tree, .ref m_other, .ref m_now, .ref m_spare, .ref m_circuit, .ref m_old]))]) (tyr := []) C I (q_siteSW (As := [.ref x0, .int (xs 1), .ref o0]) (rest := []) C m31_27 m31_29 m31_3 m31_28 ⟨by decide, by decide⟩ (Eq.trans (b := some 3) (by decide +kernel) rfl) rfl d31_SignalTheatreLaw_law_316) (h_fault_ex1 l D hl9 x0 ((xs 1)) o0 s_input s_circuit s_spare s_faults s_builder s_stage f0 f3 f4 f5 f6 cO go ho) m31_28 m31_3 [0, 1, 2] [3] [0] [] rfl rfl (by decide) (by decide) (by decide) rfl rfl hl.1 d31_SignalTheatreLaw_law_316 (Nat.le_of_ble_eq_true rfl) (Nat.le_of_ble_eq_true rfl) (Nat.le_of_ble_eq_true rfl) (Nat.le_of_ble_eq_true rfl) (fun v w ty H locs hp I => ?_) (fun E w ty H locs q ce hp I hce hcv hcl hX9 => ?_)
    rotate_left
    · obtain ⟨hv, -⟩ := hp; cases hv
    obtain ⟨hv, rfl, rfl⟩ := hp
    cases hv
    have I : q_I D q_cl _ s [(m0, .inr (13, [.ref m_input, .int 0, .int 0, .int 0, .int (-1), .ref m_tree, .ref m_other, .ref m_now, .ref m_spare, .ref m_circuit, .ref m_old])), (o0, .inl (cO, 1, .inr (.inl go)))] [(cO, .long)] H _ := I
    refine W.eq (g2 := F0 m 319 ls [.int 1]) rfl ?_
    refine lv_istore (lv' := [(5, .int 1), (4, .int 0), (3, .ref o0), (2, .ref m0), (1, .ref x0), (0, .ref b)]) hx hb d31_SignalTheatreLaw_law_319 hl (by decide) rfl (fun ls hl => ?_)
    refine lv_aload_n hx hb d31_SignalTheatreLaw_law_321 rfl (lv_at hl 3 rfl) ?_
    refine lv_aload_n hx hb d31_SignalTheatreLaw_law_322 rfl (lv_at hl 5 rfl) ?_
    refine lv_iload hx hb d31_SignalTheatreLaw_law_323 (lv_at hl 1 rfl) ?_
    refine lv_iconst (v := 1) hx hb d31_SignalTheatreLaw_law_325 (by decide) ?_
    refine lv_iadd hx hb d31_SignalTheatreLaw_law_326 ?_
    refine W.eq (g2 := F0 m 327 ls [.int 1, .ref b, .ref m0]) rfl ?_
    refine va_sld hx hb hX hbl (Nat.not_le.mpr hbl) I.2.2.2 (i := 1) (by unfold vp_in; decide) d31_SignalTheatreLaw_law_327 ?_
    refine W.eq (g2 := F0 m 328 ls [.int (xs 1), .ref m0]) rfl ?_
    refine q_go (wr := [(o0, .inl (cO, 1, .inr (.inl go)))]) (tyr := [(cO, .long)]) C I (q_siteV (As := [.int (xs 1)]) (rest := []) (q0 := 0) C I rfl rfl m31_30 m31_32 m31_33 m31_31 ⟨by decide, by decide⟩ (Eq.trans (b := some 1) (by decide +kernel) rfl) rfl d31_SignalTheatreLaw_law_328) (c_Mod_fault l D m0 m_input m_tree m_other m_now m_spare m_circuit m_old ((xs 1))) m31_31 m31_8 [0] [1] [] [0] rfl rfl (by decide) (by decide) (by decide) rfl rfl hl.1 d31_SignalTheatreLaw_law_328 (Nat.le_of_ble_eq_true rfl) (Nat.le_of_ble_eq_true rfl) (Nat.le_of_ble_eq_true rfl) (Nat.le_of_ble_eq_true rfl) (fun v w ty H locs hp I => ?_) (fun E w ty H locs q ce hp I hce hcv hcl hX9 => ?_)
    rotate_left
    · obtain ⟨_, _, hv, -⟩ := hp; cases hv
    obtain ⟨fs1, z2, hv, rfl, rfl, hq⟩ := hp
    cases hv
    rw [ho] at hq
    have ht3 : fs1[2]? = some (.int 1) := hq
    have I : q_I D q_cl _ s [(o0, .inl (cO, 1, .inr (.inl go))), (m0, .inr (13, fs1))] [(cO, .long)] H _ := I
    refine W.eq (g2 := F0 m 331 ls [.int z2]) rfl ?_
    refine lv_istore (lv' := [(6, .int z2), (5, .int 1), (4, .int 0), (3, .ref o0), (2, .ref m0), (1, .ref x0), (0, .ref b)]) hx hb d31_SignalTheatreLaw_law_331 hl (by decide) rfl (fun ls hl => ?_)
    refine lv_aload_n hx hb d31_SignalTheatreLaw_law_333 rfl (lv_at hl 4 rfl) ?_
    refine q_go (wr := [(o0, .inl (cO, 1, .inr (.inl go)))]) (tyr := [(cO, .long)]) C I (q_siteV (As := []) (rest := []) (q0 := 1) C I rfl rfl m31_9 m31_11 m31_12 m31_10 ⟨by decide, by decide⟩ (Eq.trans (b := some 0) (by decide +kernel) rfl) rfl d31_SignalTheatreLaw_law_334) (c_Mod_thrown l D m0 fs1 1 ht3) m31_10 m31_8 [1] [0] [] [0] rfl rfl (by decide) (by decide) (by decide) rfl rfl hl.1 d31_SignalTheatreLaw_law_334 (Nat.le_of_ble_eq_true rfl) (Nat.le_of_ble_eq_true rfl) (Nat.le_of_ble_eq_true rfl) (Nat.le_of_ble_eq_true rfl) (fun v w ty H locs hp I => ?_) (fun E w ty H locs q ce hp I hce hcv hcl hX9 => ?_)
    rotate_left
    · obtain ⟨hv, -⟩ := hp; cases hv
    obtain ⟨hv, rfl, rfl⟩ := hp
    cases hv
    have I : q_I D q_cl _ s [(o0, .inl (cO, 1, .inr (.inl go))), (m0, .inr (13, fs1))] [(cO, .long)] H _ := I
    refine W.eq (g2 := F0 m 337 ls [.int 1]) rfl ?_
    refine lv_iload hx hb d31_SignalTheatreLaw_law_337 (lv_at hl 1 rfl) ?_
    refine lv_icmp_eq (tgt := 344) hx hb d31_SignalTheatreLaw_law_339 (by decide) (fun _ => ?_) (fun h => absurd rfl h)
    refine lv_iload hx hb d31_SignalTheatreLaw_law_344 (lv_at hl 1 rfl) ?_
    refine lv_if_ne (tgt := 361) hx hb d31_SignalTheatreLaw_law_346 (by decide) (fun _ => ?_) (fun h => absurd h (by decide))
    refine lv_goto (tgt := 868) hx hb d31_SignalTheatreLaw_law_361 (by decide) ?_
    exact W.widen (k := 1300) (n := 5870000) (Nat.le_of_ble_eq_true rfl) (Nat.le_of_ble_eq_true rfl) (kk _ _ _ (q_pick I [] [] rfl (by decide) rfl) (lv_sub hl [2, 6] rfl))
  · skip
    obtain ⟨z, ho⟩ : ∃ z : Int32, o_fault (xs 1) = Sum.inl (some (.int z)) := by
      unfold o_fault
      rw [if_neg hc]
      split
      · exact ⟨_, rfl⟩
      · exact ⟨_, rfl⟩
    refine lv_aload_n hx hb d31_SignalTheatreLaw_law_308 rfl (lv_at hl 3 rfl) ?_
    refine lv_aload_n hx hb d31_SignalTheatreLaw_law_309 rfl (lv_at hl 4 rfl) ?_
    refine lv_iload hx hb d31_SignalTheatreLaw_law_310 (lv_at hl 0 rfl) ?_
    refine lv_iconst (v := 1) hx hb d31_SignalTheatreLaw_law_312 (by decide) ?_
    refine lv_iadd hx hb d31_SignalTheatreLaw_law_313 ?_
    refine W.eq (g2 := F0 m 314 ls [.int 1, .ref b, .ref x0]) rfl ?_
    refine va_sld hx hb hX hbl (Nat.not_le.mpr hbl) I.2.2.2 (i := 1) (by unfold vp_in; decide) d31_SignalTheatreLaw_law_314 ?_
    refine W.eq (g2 := F0 m 315 ls [.int (xs 1), .ref x0]) rfl ?_
    refine lv_aload_n hx hb d31_SignalTheatreLaw_law_315 rfl (lv_at hl 1 rfl) ?_
    refine q_goW (wr := [(m0, .inr (13, [.ref m_input, .int 0, .int 0, .int 0, .int (-1), .ref m_tree, .ref m_other, .ref m_now, .ref m_spare, .ref m_circuit, .ref m_old]))]) (tyr := []) C I (q_siteSW (As := [.ref x0, .int (xs 1), .ref o0]) (rest := []) C m31_27 m31_29 m31_3 m31_28 ⟨by decide, by decide⟩ (Eq.trans (b := some 3) (by decide +kernel) rfl) rfl d31_SignalTheatreLaw_law_316) (h_fault_ok l D hl9 x0 ((xs 1)) o0 s_input s_circuit s_spare s_faults s_builder s_stage f0 f3 f4 f5 f6 cO go z ho) m31_28 m31_3 [0, 1, 2] [3] [0] [] rfl rfl (by decide) (by decide) (by decide) rfl rfl hl.1 d31_SignalTheatreLaw_law_316 (Nat.le_of_ble_eq_true rfl) (Nat.le_of_ble_eq_true rfl) (Nat.le_of_ble_eq_true rfl) (Nat.le_of_ble_eq_true rfl) (fun v w ty H locs hp I => ?_) (fun E w ty H locs q ce hp I hce hcv hcl hX9 => ?_)
    rotate_left
    · obtain ⟨hv, -⟩ := hp; cases hv
    obtain ⟨hv, rfl, rfl⟩ := hp
    cases hv
    have I : q_I D q_cl _ s [(m0, .inr (13, [.ref m_input, .int 0, .int 0, .int 0, .int (-1), .ref m_tree, .ref m_other, .ref m_now, .ref m_spare, .ref m_circuit, .ref m_old])), (o0, .inl (cO, 1, .inr (.inl (vp_updL go 0 (z).toInt64))))] [(cO, .long)] H _ := I
    refine W.eq (g2 := F0 m 319 ls [.int 0]) rfl ?_
    refine lv_istore (lv' := [(5, .int 0), (4, .int 0), (3, .ref o0), (2, .ref m0), (1, .ref x0), (0, .ref b)]) hx hb d31_SignalTheatreLaw_law_319 hl (by decide) rfl (fun ls hl => ?_)
    refine lv_aload_n hx hb d31_SignalTheatreLaw_law_321 rfl (lv_at hl 3 rfl) ?_
    refine lv_aload_n hx hb d31_SignalTheatreLaw_law_322 rfl (lv_at hl 5 rfl) ?_
    refine lv_iload hx hb d31_SignalTheatreLaw_law_323 (lv_at hl 1 rfl) ?_
    refine lv_iconst (v := 1) hx hb d31_SignalTheatreLaw_law_325 (by decide) ?_
    refine lv_iadd hx hb d31_SignalTheatreLaw_law_326 ?_
    refine W.eq (g2 := F0 m 327 ls [.int 1, .ref b, .ref m0]) rfl ?_
    refine va_sld hx hb hX hbl (Nat.not_le.mpr hbl) I.2.2.2 (i := 1) (by unfold vp_in; decide) d31_SignalTheatreLaw_law_327 ?_
    refine W.eq (g2 := F0 m 328 ls [.int (xs 1), .ref m0]) rfl ?_
    refine q_go (wr := [(o0, .inl (cO, 1, .inr (.inl (vp_updL go 0 (z).toInt64))))]) (tyr := [(cO, .long)]) C I (q_siteV (As := [.int (xs 1)]) (rest := []) (q0 := 0) C I rfl rfl m31_30 m31_32 m31_33 m31_31 ⟨by decide, by decide⟩ (Eq.trans (b := some 1) (by decide +kernel) rfl) rfl d31_SignalTheatreLaw_law_328) (c_Mod_fault l D m0 m_input m_tree m_other m_now m_spare m_circuit m_old ((xs 1))) m31_31 m31_8 [0] [1] [] [0] rfl rfl (by decide) (by decide) (by decide) rfl rfl hl.1 d31_SignalTheatreLaw_law_328 (Nat.le_of_ble_eq_true rfl) (Nat.le_of_ble_eq_true rfl) (Nat.le_of_ble_eq_true rfl) (Nat.le_of_ble_eq_true rfl) (fun v w ty H locs hp I => ?_) (fun E w ty H locs q ce hp I hce hcv hcl hX9 => ?_)
    rotate_left
    · obtain ⟨_, _, hv, -⟩ := hp; cases hv
    obtain ⟨fs4, z5, hv, rfl, rfl, hq⟩ := hp
    cases hv
    rw [ho] at hq
    have ht6 : fs4[2]? = some (.int 0) := hq.1
    have hz : z5 = z := Value.int.inj (Option.some.inj hq.2)
    have I : q_I D q_cl _ s [(o0, .inl (cO, 1, .inr (.inl (vp_updL go 0 (z).toInt64)))), (m0, .inr (13, fs4))] [(cO, .long)] H _ := I
    refine W.eq (g2 := F0 m 331 ls [.int z5]) rfl ?_
    rw [hz]
    refine lv_istore (lv' := [(6, .int z), (5, .int 0), (4, .int 0), (3, .ref o0), (2, .ref m0), (1, .ref x0), (0, .ref b)]) hx hb d31_SignalTheatreLaw_law_331 hl (by decide) rfl (fun ls hl => ?_)
    refine lv_aload_n hx hb d31_SignalTheatreLaw_law_333 rfl (lv_at hl 4 rfl) ?_
    refine q_go (wr := [(o0, .inl (cO, 1, .inr (.inl (vp_updL go 0 (z).toInt64))))]) (tyr := [(cO, .long)]) C I (q_siteV (As := []) (rest := []) (q0 := 1) C I rfl rfl m31_9 m31_11 m31_12 m31_10 ⟨by decide, by decide⟩ (Eq.trans (b := some 0) (by decide +kernel) rfl) rfl d31_SignalTheatreLaw_law_334) (c_Mod_thrown l D m0 fs4 0 ht6) m31_10 m31_8 [1] [0] [] [0] rfl rfl (by decide) (by decide) (by decide) rfl rfl hl.1 d31_SignalTheatreLaw_law_334 (Nat.le_of_ble_eq_true rfl) (Nat.le_of_ble_eq_true rfl) (Nat.le_of_ble_eq_true rfl) (Nat.le_of_ble_eq_true rfl) (fun v w ty H locs hp I => ?_) (fun E w ty H locs q ce hp I hce hcv hcl hX9 => ?_)
    rotate_left
    · obtain ⟨hv, -⟩ := hp; cases hv
    obtain ⟨hv, rfl, rfl⟩ := hp
    cases hv
    have I : q_I D q_cl _ s [(o0, .inl (cO, 1, .inr (.inl (vp_updL go 0 (z).toInt64)))), (m0, .inr (13, fs4))] [(cO, .long)] H _ := I
    refine W.eq (g2 := F0 m 337 ls [.int 0]) rfl ?_
    refine lv_iload hx hb d31_SignalTheatreLaw_law_337 (lv_at hl 1 rfl) ?_
    refine lv_icmp_eq (tgt := 344) hx hb d31_SignalTheatreLaw_law_339 (by decide) (fun _ => ?_) (fun h => absurd rfl h)
    refine lv_iload hx hb d31_SignalTheatreLaw_law_344 (lv_at hl 1 rfl) ?_
    refine lv_if_ne (tgt := 361) hx hb d31_SignalTheatreLaw_law_346 (by decide) (fun h => absurd h (by decide)) (fun _ => ?_)
    refine lv_aload_n hx hb d31_SignalTheatreLaw_law_349 rfl (lv_at hl 3 rfl) ?_
    refine lv_iconst (v := 0) hx hb d31_SignalTheatreLaw_law_350 (by decide) ?_
    refine q_lald C I 0 0 rfl rfl (by unfold vp_in; decide) d31_SignalTheatreLaw_law_351 ?_
    refine W.eq (g2 := F0 m 352 ls [.long (z).toInt64]) rfl ?_
    refine lv_iload hx hb d31_SignalTheatreLaw_law_352 (lv_at hl 0 rfl) ?_
    refine lv_i2l hx hb d31_SignalTheatreLaw_law_354 rfl ?_
    refine W.lcmp hx hb d31_SignalTheatreLaw_law_355 ?_
    refine W.eq (g2 := F0 m 356 ls [.int 0]) (congrArg (fun z => F0 m 356 ls (.int z :: [])) (by simp [lg_cmp])) ?_
    refine lv_if_eq (tgt := 361) hx hb d31_SignalTheatreLaw_law_356 (by decide) (fun _ => ?_) (fun h => absurd h (by decide))
    refine lv_goto (tgt := 868) hx hb d31_SignalTheatreLaw_law_361 (by decide) ?_
    exact W.widen (k := 1300) (n := 5870000) (Nat.le_of_ble_eq_true rfl) (Nat.le_of_ble_eq_true rfl) (kk _ _ _ (q_pick I [] [] rfl (by decide) rfl) (lv_sub hl [2, 6] rfl))
set_option maxHeartbeats 4000000 in
set_option maxRecDepth 100000 in
/-- the law's case run -/
theorem lc_run {p : Program} {l : Launch} {e : Env} {s : State} {m : MethodId} {below : List Frame} {meth : Method} {c : Code} {Q : State → Prop} {D : va_G} {H : Heap} {locs : List Loc} {ls : Array Slot} {b : Nat} {xs : Nat → Int32} {x0 : Nat} {s_input : Nat} {s_circuit : Nat} {s_spare : Nat} {s_faults : Nat} {s_builder : Nat} {s_stage : Nat} {o0 : Nat} {cO : ClassId} {go : Nat → Int64} {m0 : Nat} {m_input : Nat} {m_tree : Nat} {m_other : Nat} {m_now : Nat} {m_spare : Nat} {m_circuit : Nat} {m_old : Nat} {mf : List Value} (hl9 : l.stackTraces = false) (C : q_C p s m meth c #[Value.ref b] code 8 "SignalTheatreLaw" (lw_A s)) (hX : va_X b 7 xs s s.heap) (hbl : b < s.heap.size) (hm_there : mf[1]? = some (.int 0))
    (I : q_I D q_cl (lw_A s) s [(x0, .inr (0, [.ref s_input, .int 0, .int 0, .ref s_circuit, .ref s_spare, .ref s_faults, .ref s_builder, .ref s_stage])), (o0, .inl (cO, 1, .inr (.inl go))), (m0, .inr (13, [.ref m_input, .int 0, .int 0, .int 0, .int (-1), .ref m_tree, .ref m_other, .ref m_now, .ref m_spare, .ref m_circuit, .ref m_old])), (m_circuit, .inr (17, mf))] [(cO, .long)] H locs) (hl : lv_has ls 8 [(4, .int 0), (3, .ref o0), (2, .ref m0), (1, .ref x0), (0, .ref b)])
    (kk : ∀ (H : Heap) (locs : List Loc) (ls : Array Slot), q_I D q_cl (lw_A s) s [] [] H locs → lv_has ls 8 [(4, .int 0), (0, .ref b)] → W p l e room_1 s m #[Value.ref b] below meth c H locs 1300 5870000 Q (F0 m 868 ls [])) :
    W p l e room_1 s m #[Value.ref b] below meth c H locs 1170 5867776 Q (F0 m 364 ls []) := by
  have hx := C.1
  have hb := C.2.1
  by_cases hc : xs 1 < 1 ∨ ¬ xs 1 ≤ 20000
  · skip
    have ho : o_run (xs 1) = Sum.inr "java/lang/IllegalArgumentException" := if_pos hc
    refine lv_aload_n hx hb d31_SignalTheatreLaw_law_364 rfl (lv_at hl 3 rfl) ?_
    refine lv_aload_n hx hb d31_SignalTheatreLaw_law_365 rfl (lv_at hl 4 rfl) ?_
    refine lv_iload hx hb d31_SignalTheatreLaw_law_366 (lv_at hl 0 rfl) ?_
    refine lv_iconst (v := 1) hx hb d31_SignalTheatreLaw_law_368 (by decide) ?_
    refine lv_iadd hx hb d31_SignalTheatreLaw_law_369 ?_
    refine W.eq (g2 := F0 m 370 ls [.int 1, .ref b, .ref x0]) rfl ?_
    refine va_sld hx hb hX hbl (Nat.not_le.mpr hbl) I.2.2.2 (i := 1) (by unfold vp_in; decide) d31_SignalTheatreLaw_law_370 ?_
    refine W.eq (g2 := F0 m 371 ls [.int (xs 1), .ref x0]) rfl ?_
    refine lv_aload_n hx hb d31_SignalTheatreLaw_law_371 rfl (lv_at hl 1 rfl) ?_
    refine q_goW (wr := [(m0, .inr (13, [.ref m_input, .int 0, .int 0, .int 0, .int (-1), .ref m_tree, .ref m_other, .ref m_now, .ref m_spare, .ref m_circuit, .ref m_old])), (m_circuit, .inr (17, mf))]) (tyr := []) C I (q_siteSW (As := [.ref x0, .int (xs 1), .ref o0]) (rest := []) C m31_34 m31_36 m31_3 m31_35 ⟨by decide, by decide⟩ (Eq.trans (b := some 3) (by decide +kernel) rfl) rfl d31_SignalTheatreLaw_law_372) (h_run_ex1 l D hl9 x0 ((xs 1)) o0 s_input s_circuit s_spare s_faults s_builder s_stage cO go ho) m31_35 m31_3 [0, 1] [2, 3] [0] [] rfl rfl (by decide) (by decide) (by decide) rfl rfl hl.1 d31_SignalTheatreLaw_law_372 (Nat.le_of_ble_eq_true rfl) (Nat.le_of_ble_eq_true rfl) (Nat.le_of_ble_eq_true rfl) (Nat.le_of_ble_eq_true rfl) (fun v w ty H locs hp I => ?_) (fun E w ty H locs q ce hp I hce hcv hcl hX9 => ?_)
    rotate_left
    · obtain ⟨hv, -⟩ := hp; cases hv
    obtain ⟨hv, rfl, rfl⟩ := hp
    cases hv
    have I : q_I D q_cl _ s [(m0, .inr (13, [.ref m_input, .int 0, .int 0, .int 0, .int (-1), .ref m_tree, .ref m_other, .ref m_now, .ref m_spare, .ref m_circuit, .ref m_old])), (m_circuit, .inr (17, mf)), (o0, .inl (cO, 1, .inr (.inl go)))] [(cO, .long)] H _ := I
    refine W.eq (g2 := F0 m 375 ls [.int 1]) rfl ?_
    refine lv_istore (lv' := [(5, .int 1), (4, .int 0), (3, .ref o0), (2, .ref m0), (1, .ref x0), (0, .ref b)]) hx hb d31_SignalTheatreLaw_law_375 hl (by decide) rfl (fun ls hl => ?_)
    refine lv_aload_n hx hb d31_SignalTheatreLaw_law_377 rfl (lv_at hl 3 rfl) ?_
    refine lv_aload_n hx hb d31_SignalTheatreLaw_law_378 rfl (lv_at hl 5 rfl) ?_
    refine lv_iload hx hb d31_SignalTheatreLaw_law_379 (lv_at hl 1 rfl) ?_
    refine lv_iconst (v := 1) hx hb d31_SignalTheatreLaw_law_381 (by decide) ?_
    refine lv_iadd hx hb d31_SignalTheatreLaw_law_382 ?_
    refine W.eq (g2 := F0 m 383 ls [.int 1, .ref b, .ref m0]) rfl ?_
    refine va_sld hx hb hX hbl (Nat.not_le.mpr hbl) I.2.2.2 (i := 1) (by unfold vp_in; decide) d31_SignalTheatreLaw_law_383 ?_
    refine W.eq (g2 := F0 m 384 ls [.int (xs 1), .ref m0]) rfl ?_
    refine q_go (wr := [(o0, .inl (cO, 1, .inr (.inl go)))]) (tyr := [(cO, .long)]) C I (q_siteV (As := [.int (xs 1)]) (rest := []) (q0 := 0) C I rfl rfl m31_37 m31_39 m31_40 m31_38 ⟨by decide, by decide⟩ (Eq.trans (b := some 1) (by decide +kernel) rfl) rfl d31_SignalTheatreLaw_law_384) (c_Mod_run l D m0 m_input m_tree m_other m_now m_spare m_circuit m_old mf hm_there ((xs 1))) m31_38 m31_8 [0, 1] [2] [] [0] rfl rfl (by decide) (by decide) (by decide) rfl rfl hl.1 d31_SignalTheatreLaw_law_384 (Nat.le_of_ble_eq_true rfl) (Nat.le_of_ble_eq_true rfl) (Nat.le_of_ble_eq_true rfl) (Nat.le_of_ble_eq_true rfl) (fun v w ty H locs hp I => ?_) (fun E w ty H locs q ce hp I hce hcv hcl hX9 => ?_)
    rotate_left
    · obtain ⟨_, _, hv, -⟩ := hp; cases hv
    obtain ⟨fs1, z2, hv, rfl, rfl, hq⟩ := hp
    cases hv
    rw [ho] at hq
    rw [if_pos hc] at hq
    have ht3 : fs1[2]? = some (.int 1) := hq
    have I : q_I D q_cl _ s [(o0, .inl (cO, 1, .inr (.inl go))), (m0, .inr (13, fs1))] [(cO, .long)] H _ := I
    refine W.eq (g2 := F0 m 387 ls [.int z2]) rfl ?_
    refine lv_istore (lv' := [(6, .int z2), (5, .int 1), (4, .int 0), (3, .ref o0), (2, .ref m0), (1, .ref x0), (0, .ref b)]) hx hb d31_SignalTheatreLaw_law_387 hl (by decide) rfl (fun ls hl => ?_)
    refine lv_aload_n hx hb d31_SignalTheatreLaw_law_389 rfl (lv_at hl 4 rfl) ?_
    refine q_go (wr := [(o0, .inl (cO, 1, .inr (.inl go)))]) (tyr := [(cO, .long)]) C I (q_siteV (As := []) (rest := []) (q0 := 1) C I rfl rfl m31_9 m31_11 m31_12 m31_10 ⟨by decide, by decide⟩ (Eq.trans (b := some 0) (by decide +kernel) rfl) rfl d31_SignalTheatreLaw_law_390) (c_Mod_thrown l D m0 fs1 1 ht3) m31_10 m31_8 [1] [0] [] [0] rfl rfl (by decide) (by decide) (by decide) rfl rfl hl.1 d31_SignalTheatreLaw_law_390 (Nat.le_of_ble_eq_true rfl) (Nat.le_of_ble_eq_true rfl) (Nat.le_of_ble_eq_true rfl) (Nat.le_of_ble_eq_true rfl) (fun v w ty H locs hp I => ?_) (fun E w ty H locs q ce hp I hce hcv hcl hX9 => ?_)
    rotate_left
    · obtain ⟨hv, -⟩ := hp; cases hv
    obtain ⟨hv, rfl, rfl⟩ := hp
    cases hv
    have I : q_I D q_cl _ s [(o0, .inl (cO, 1, .inr (.inl go))), (m0, .inr (13, fs1))] [(cO, .long)] H _ := I
    refine W.eq (g2 := F0 m 393 ls [.int 1]) rfl ?_
    refine lv_iload hx hb d31_SignalTheatreLaw_law_393 (lv_at hl 1 rfl) ?_
    refine lv_icmp_eq (tgt := 400) hx hb d31_SignalTheatreLaw_law_395 (by decide) (fun _ => ?_) (fun h => absurd rfl h)
    refine lv_iload hx hb d31_SignalTheatreLaw_law_400 (lv_at hl 1 rfl) ?_
    refine lv_if_ne (tgt := 417) hx hb d31_SignalTheatreLaw_law_402 (by decide) (fun _ => ?_) (fun h => absurd h (by decide))
    refine lv_goto (tgt := 868) hx hb d31_SignalTheatreLaw_law_417 (by decide) ?_
    exact W.widen (k := 1300) (n := 5870000) (Nat.le_of_ble_eq_true rfl) (Nat.le_of_ble_eq_true rfl) (kk _ _ _ (q_pick I [] [] rfl (by decide) rfl) (lv_sub hl [2, 6] rfl))
  · skip
    have ho : o_run (xs 1) = Sum.inr "java/lang/IllegalStateException" := if_neg hc
    refine lv_aload_n hx hb d31_SignalTheatreLaw_law_364 rfl (lv_at hl 3 rfl) ?_
    refine lv_aload_n hx hb d31_SignalTheatreLaw_law_365 rfl (lv_at hl 4 rfl) ?_
    refine lv_iload hx hb d31_SignalTheatreLaw_law_366 (lv_at hl 0 rfl) ?_
    refine lv_iconst (v := 1) hx hb d31_SignalTheatreLaw_law_368 (by decide) ?_
    refine lv_iadd hx hb d31_SignalTheatreLaw_law_369 ?_
    refine W.eq (g2 := F0 m 370 ls [.int 1, .ref b, .ref x0]) rfl ?_
    refine va_sld hx hb hX hbl (Nat.not_le.mpr hbl) I.2.2.2 (i := 1) (by unfold vp_in; decide) d31_SignalTheatreLaw_law_370 ?_
    refine W.eq (g2 := F0 m 371 ls [.int (xs 1), .ref x0]) rfl ?_
    refine lv_aload_n hx hb d31_SignalTheatreLaw_law_371 rfl (lv_at hl 1 rfl) ?_
    refine q_goW (wr := [(m0, .inr (13, [.ref m_input, .int 0, .int 0, .int 0, .int (-1), .ref m_tree, .ref m_other, .ref m_now, .ref m_spare, .ref m_circuit, .ref m_old])), (m_circuit, .inr (17, mf))]) (tyr := []) C I (q_siteSW (As := [.ref x0, .int (xs 1), .ref o0]) (rest := []) C m31_34 m31_36 m31_3 m31_35 ⟨by decide, by decide⟩ (Eq.trans (b := some 3) (by decide +kernel) rfl) rfl d31_SignalTheatreLaw_law_372) (h_run_ex2 l D hl9 x0 ((xs 1)) o0 s_input s_circuit s_spare s_faults s_builder s_stage cO go ho) m31_35 m31_3 [0, 1] [2, 3] [0] [] rfl rfl (by decide) (by decide) (by decide) rfl rfl hl.1 d31_SignalTheatreLaw_law_372 (Nat.le_of_ble_eq_true rfl) (Nat.le_of_ble_eq_true rfl) (Nat.le_of_ble_eq_true rfl) (Nat.le_of_ble_eq_true rfl) (fun v w ty H locs hp I => ?_) (fun E w ty H locs q ce hp I hce hcv hcl hX9 => ?_)
    rotate_left
    · obtain ⟨hv, -⟩ := hp; cases hv
    obtain ⟨hv, rfl, rfl⟩ := hp
    cases hv
    have I : q_I D q_cl _ s [(m0, .inr (13, [.ref m_input, .int 0, .int 0, .int 0, .int (-1), .ref m_tree, .ref m_other, .ref m_now, .ref m_spare, .ref m_circuit, .ref m_old])), (m_circuit, .inr (17, mf)), (o0, .inl (cO, 1, .inr (.inl go)))] [(cO, .long)] H _ := I
    refine W.eq (g2 := F0 m 375 ls [.int 2]) rfl ?_
    refine lv_istore (lv' := [(5, .int 2), (4, .int 0), (3, .ref o0), (2, .ref m0), (1, .ref x0), (0, .ref b)]) hx hb d31_SignalTheatreLaw_law_375 hl (by decide) rfl (fun ls hl => ?_)
    refine lv_aload_n hx hb d31_SignalTheatreLaw_law_377 rfl (lv_at hl 3 rfl) ?_
    refine lv_aload_n hx hb d31_SignalTheatreLaw_law_378 rfl (lv_at hl 5 rfl) ?_
    refine lv_iload hx hb d31_SignalTheatreLaw_law_379 (lv_at hl 1 rfl) ?_
    refine lv_iconst (v := 1) hx hb d31_SignalTheatreLaw_law_381 (by decide) ?_
    refine lv_iadd hx hb d31_SignalTheatreLaw_law_382 ?_
    refine W.eq (g2 := F0 m 383 ls [.int 1, .ref b, .ref m0]) rfl ?_
    refine va_sld hx hb hX hbl (Nat.not_le.mpr hbl) I.2.2.2 (i := 1) (by unfold vp_in; decide) d31_SignalTheatreLaw_law_383 ?_
    refine W.eq (g2 := F0 m 384 ls [.int (xs 1), .ref m0]) rfl ?_
    refine q_go (wr := [(o0, .inl (cO, 1, .inr (.inl go)))]) (tyr := [(cO, .long)]) C I (q_siteV (As := [.int (xs 1)]) (rest := []) (q0 := 0) C I rfl rfl m31_37 m31_39 m31_40 m31_38 ⟨by decide, by decide⟩ (Eq.trans (b := some 1) (by decide +kernel) rfl) rfl d31_SignalTheatreLaw_law_384) (c_Mod_run l D m0 m_input m_tree m_other m_now m_spare m_circuit m_old mf hm_there ((xs 1))) m31_38 m31_8 [0, 1] [2] [] [0] rfl rfl (by decide) (by decide) (by decide) rfl rfl hl.1 d31_SignalTheatreLaw_law_384 (Nat.le_of_ble_eq_true rfl) (Nat.le_of_ble_eq_true rfl) (Nat.le_of_ble_eq_true rfl) (Nat.le_of_ble_eq_true rfl) (fun v w ty H locs hp I => ?_) (fun E w ty H locs q ce hp I hce hcv hcl hX9 => ?_)
    rotate_left
    · obtain ⟨_, _, hv, -⟩ := hp; cases hv
    obtain ⟨fs4, z5, hv, rfl, rfl, hq⟩ := hp
    cases hv
    rw [ho] at hq
    rw [if_neg hc] at hq
    have ht6 : fs4[2]? = some (.int 2) := hq
    have I : q_I D q_cl _ s [(o0, .inl (cO, 1, .inr (.inl go))), (m0, .inr (13, fs4))] [(cO, .long)] H _ := I
    refine W.eq (g2 := F0 m 387 ls [.int z5]) rfl ?_
    refine lv_istore (lv' := [(6, .int z5), (5, .int 2), (4, .int 0), (3, .ref o0), (2, .ref m0), (1, .ref x0), (0, .ref b)]) hx hb d31_SignalTheatreLaw_law_387 hl (by decide) rfl (fun ls hl => ?_)
    refine lv_aload_n hx hb d31_SignalTheatreLaw_law_389 rfl (lv_at hl 4 rfl) ?_
    refine q_go (wr := [(o0, .inl (cO, 1, .inr (.inl go)))]) (tyr := [(cO, .long)]) C I (q_siteV (As := []) (rest := []) (q0 := 1) C I rfl rfl m31_9 m31_11 m31_12 m31_10 ⟨by decide, by decide⟩ (Eq.trans (b := some 0) (by decide +kernel) rfl) rfl d31_SignalTheatreLaw_law_390) (c_Mod_thrown l D m0 fs4 2 ht6) m31_10 m31_8 [1] [0] [] [0] rfl rfl (by decide) (by decide) (by decide) rfl rfl hl.1 d31_SignalTheatreLaw_law_390 (Nat.le_of_ble_eq_true rfl) (Nat.le_of_ble_eq_true rfl) (Nat.le_of_ble_eq_true rfl) (Nat.le_of_ble_eq_true rfl) (fun v w ty H locs hp I => ?_) (fun E w ty H locs q ce hp I hce hcv hcl hX9 => ?_)
    rotate_left
    · obtain ⟨hv, -⟩ := hp; cases hv
    obtain ⟨hv, rfl, rfl⟩ := hp
    cases hv
    have I : q_I D q_cl _ s [(o0, .inl (cO, 1, .inr (.inl go))), (m0, .inr (13, fs4))] [(cO, .long)] H _ := I
    refine W.eq (g2 := F0 m 393 ls [.int 2]) rfl ?_
    refine lv_iload hx hb d31_SignalTheatreLaw_law_393 (lv_at hl 1 rfl) ?_
    refine lv_icmp_eq (tgt := 400) hx hb d31_SignalTheatreLaw_law_395 (by decide) (fun _ => ?_) (fun h => absurd rfl h)
    refine lv_iload hx hb d31_SignalTheatreLaw_law_400 (lv_at hl 1 rfl) ?_
    refine lv_if_ne (tgt := 417) hx hb d31_SignalTheatreLaw_law_402 (by decide) (fun _ => ?_) (fun h => absurd h (by decide))
    refine lv_goto (tgt := 868) hx hb d31_SignalTheatreLaw_law_417 (by decide) ?_
    exact W.widen (k := 1300) (n := 5870000) (Nat.le_of_ble_eq_true rfl) (Nat.le_of_ble_eq_true rfl) (kk _ _ _ (q_pick I [] [] rfl (by decide) rfl) (lv_sub hl [2, 6] rfl))
set_option maxHeartbeats 4000000 in
set_option maxRecDepth 100000 in
/-- the law's case value -/
theorem lc_value {p : Program} {l : Launch} {e : Env} {s : State} {m : MethodId} {below : List Frame} {meth : Method} {c : Code} {Q : State → Prop} {D : va_G} {H : Heap} {locs : List Loc} {ls : Array Slot} {b : Nat} {xs : Nat → Int32} {x0 : Nat} {s_input : Nat} {s_circuit : Nat} {s_spare : Nat} {s_faults : Nat} {s_builder : Nat} {s_stage : Nat} {o0 : Nat} {cO : ClassId} {go : Nat → Int64} {m0 : Nat} {m_input : Nat} {m_tree : Nat} {m_other : Nat} {m_now : Nat} {m_spare : Nat} {m_circuit : Nat} {m_old : Nat} {mf : List Value} (hl9 : l.stackTraces = false) (C : q_C p s m meth c #[Value.ref b] code 8 "SignalTheatreLaw" (lw_A s)) (hX : va_X b 7 xs s s.heap) (hbl : b < s.heap.size) (hm_vars : mf[24]? = some (.int 0))
    (I : q_I D q_cl (lw_A s) s [(x0, .inr (0, [.ref s_input, .int 0, .int 0, .ref s_circuit, .ref s_spare, .ref s_faults, .ref s_builder, .ref s_stage])), (o0, .inl (cO, 1, .inr (.inl go))), (m0, .inr (13, [.ref m_input, .int 0, .int 0, .int 0, .int (-1), .ref m_tree, .ref m_other, .ref m_now, .ref m_spare, .ref m_circuit, .ref m_old])), (m_circuit, .inr (17, mf))] [(cO, .long)] H locs) (hl : lv_has ls 8 [(4, .int 0), (3, .ref o0), (2, .ref m0), (1, .ref x0), (0, .ref b)])
    (kk : ∀ (H : Heap) (locs : List Loc) (ls : Array Slot), q_I D q_cl (lw_A s) s [] [] H locs → lv_has ls 8 [(4, .int 0), (0, .ref b)] → W p l e room_1 s m #[Value.ref b] below meth c H locs 1300 5870000 Q (F0 m 868 ls [])) :
    W p l e room_1 s m #[Value.ref b] below meth c H locs 1170 5867776 Q (F0 m 420 ls []) := by
  have hx := C.1
  have hb := C.2.1
  by_cases hc : xs 3 < 0 ∨ ¬ xs 3 ≤ 1
  · skip
    have ho : o_value (xs 3) = Sum.inr "java/lang/IllegalArgumentException" := if_pos hc
    refine lv_aload_n hx hb d31_SignalTheatreLaw_law_420 rfl (lv_at hl 3 rfl) ?_
    refine lv_aload_n hx hb d31_SignalTheatreLaw_law_421 rfl (lv_at hl 4 rfl) ?_
    refine lv_iload hx hb d31_SignalTheatreLaw_law_422 (lv_at hl 0 rfl) ?_
    refine lv_iconst (v := 1) hx hb d31_SignalTheatreLaw_law_424 (by decide) ?_
    refine lv_iadd hx hb d31_SignalTheatreLaw_law_425 ?_
    refine W.eq (g2 := F0 m 426 ls [.int 1, .ref b, .ref x0]) rfl ?_
    refine va_sld hx hb hX hbl (Nat.not_le.mpr hbl) I.2.2.2 (i := 1) (by unfold vp_in; decide) d31_SignalTheatreLaw_law_426 ?_
    refine W.eq (g2 := F0 m 427 ls [.int (xs 1), .ref x0]) rfl ?_
    refine lv_aload_n hx hb d31_SignalTheatreLaw_law_427 rfl (lv_at hl 4 rfl) ?_
    refine lv_iload hx hb d31_SignalTheatreLaw_law_428 (lv_at hl 0 rfl) ?_
    refine lv_iconst (v := 2) hx hb d31_SignalTheatreLaw_law_430 (by decide) ?_
    refine lv_iadd hx hb d31_SignalTheatreLaw_law_431 ?_
    refine W.eq (g2 := F0 m 432 ls [.int 2, .ref b, .int (xs 1), .ref x0]) rfl ?_
    refine va_sld hx hb hX hbl (Nat.not_le.mpr hbl) I.2.2.2 (i := 2) (by unfold vp_in; decide) d31_SignalTheatreLaw_law_432 ?_
    refine W.eq (g2 := F0 m 433 ls [.int (xs 2), .int (xs 1), .ref x0]) rfl ?_
    refine lv_aload_n hx hb d31_SignalTheatreLaw_law_433 rfl (lv_at hl 4 rfl) ?_
    refine lv_iload hx hb d31_SignalTheatreLaw_law_434 (lv_at hl 0 rfl) ?_
    refine lv_iconst (v := 3) hx hb d31_SignalTheatreLaw_law_436 (by decide) ?_
    refine lv_iadd hx hb d31_SignalTheatreLaw_law_437 ?_
    refine W.eq (g2 := F0 m 438 ls [.int 3, .ref b, .int (xs 2), .int (xs 1), .ref x0]) rfl ?_
    refine va_sld hx hb hX hbl (Nat.not_le.mpr hbl) I.2.2.2 (i := 3) (by unfold vp_in; decide) d31_SignalTheatreLaw_law_438 ?_
    refine W.eq (g2 := F0 m 439 ls [.int (xs 3), .int (xs 2), .int (xs 1), .ref x0]) rfl ?_
    refine lv_aload_n hx hb d31_SignalTheatreLaw_law_439 rfl (lv_at hl 1 rfl) ?_
    refine q_goW (wr := [(m0, .inr (13, [.ref m_input, .int 0, .int 0, .int 0, .int (-1), .ref m_tree, .ref m_other, .ref m_now, .ref m_spare, .ref m_circuit, .ref m_old])), (m_circuit, .inr (17, mf))]) (tyr := []) C I (q_siteSW (As := [.ref x0, .int (xs 1), .int (xs 2), .int (xs 3), .ref o0]) (rest := []) C m31_41 m31_43 m31_3 m31_42 ⟨by decide, by decide⟩ (Eq.trans (b := some 5) (by decide +kernel) rfl) rfl d31_SignalTheatreLaw_law_440) (h_value_ex1 l D hl9 x0 ((xs 1)) ((xs 2)) ((xs 3)) o0 s_input s_circuit s_spare s_faults s_builder s_stage cO go ho) m31_42 m31_3 [0, 1] [2, 3] [0] [] rfl rfl (by decide) (by decide) (by decide) rfl rfl hl.1 d31_SignalTheatreLaw_law_440 (Nat.le_of_ble_eq_true rfl) (Nat.le_of_ble_eq_true rfl) (Nat.le_of_ble_eq_true rfl) (Nat.le_of_ble_eq_true rfl) (fun v w ty H locs hp I => ?_) (fun E w ty H locs q ce hp I hce hcv hcl hX9 => ?_)
    rotate_left
    · obtain ⟨hv, -⟩ := hp; cases hv
    obtain ⟨hv, rfl, rfl⟩ := hp
    cases hv
    have I : q_I D q_cl _ s [(m0, .inr (13, [.ref m_input, .int 0, .int 0, .int 0, .int (-1), .ref m_tree, .ref m_other, .ref m_now, .ref m_spare, .ref m_circuit, .ref m_old])), (m_circuit, .inr (17, mf)), (o0, .inl (cO, 1, .inr (.inl go)))] [(cO, .long)] H _ := I
    refine W.eq (g2 := F0 m 443 ls [.int 1]) rfl ?_
    refine lv_istore (lv' := [(5, .int 1), (4, .int 0), (3, .ref o0), (2, .ref m0), (1, .ref x0), (0, .ref b)]) hx hb d31_SignalTheatreLaw_law_443 hl (by decide) rfl (fun ls hl => ?_)
    refine lv_aload_n hx hb d31_SignalTheatreLaw_law_445 rfl (lv_at hl 3 rfl) ?_
    refine lv_aload_n hx hb d31_SignalTheatreLaw_law_446 rfl (lv_at hl 5 rfl) ?_
    refine lv_iload hx hb d31_SignalTheatreLaw_law_447 (lv_at hl 1 rfl) ?_
    refine lv_iconst (v := 1) hx hb d31_SignalTheatreLaw_law_449 (by decide) ?_
    refine lv_iadd hx hb d31_SignalTheatreLaw_law_450 ?_
    refine W.eq (g2 := F0 m 451 ls [.int 1, .ref b, .ref m0]) rfl ?_
    refine va_sld hx hb hX hbl (Nat.not_le.mpr hbl) I.2.2.2 (i := 1) (by unfold vp_in; decide) d31_SignalTheatreLaw_law_451 ?_
    refine W.eq (g2 := F0 m 452 ls [.int (xs 1), .ref m0]) rfl ?_
    refine lv_aload_n hx hb d31_SignalTheatreLaw_law_452 rfl (lv_at hl 5 rfl) ?_
    refine lv_iload hx hb d31_SignalTheatreLaw_law_453 (lv_at hl 1 rfl) ?_
    refine lv_iconst (v := 2) hx hb d31_SignalTheatreLaw_law_455 (by decide) ?_
    refine lv_iadd hx hb d31_SignalTheatreLaw_law_456 ?_
    refine W.eq (g2 := F0 m 457 ls [.int 2, .ref b, .int (xs 1), .ref m0]) rfl ?_
    refine va_sld hx hb hX hbl (Nat.not_le.mpr hbl) I.2.2.2 (i := 2) (by unfold vp_in; decide) d31_SignalTheatreLaw_law_457 ?_
    refine W.eq (g2 := F0 m 458 ls [.int (xs 2), .int (xs 1), .ref m0]) rfl ?_
    refine lv_aload_n hx hb d31_SignalTheatreLaw_law_458 rfl (lv_at hl 5 rfl) ?_
    refine lv_iload hx hb d31_SignalTheatreLaw_law_459 (lv_at hl 1 rfl) ?_
    refine lv_iconst (v := 3) hx hb d31_SignalTheatreLaw_law_461 (by decide) ?_
    refine lv_iadd hx hb d31_SignalTheatreLaw_law_462 ?_
    refine W.eq (g2 := F0 m 463 ls [.int 3, .ref b, .int (xs 2), .int (xs 1), .ref m0]) rfl ?_
    refine va_sld hx hb hX hbl (Nat.not_le.mpr hbl) I.2.2.2 (i := 3) (by unfold vp_in; decide) d31_SignalTheatreLaw_law_463 ?_
    refine W.eq (g2 := F0 m 464 ls [.int (xs 3), .int (xs 2), .int (xs 1), .ref m0]) rfl ?_
    refine q_go (wr := [(o0, .inl (cO, 1, .inr (.inl go)))]) (tyr := [(cO, .long)]) C I (q_siteV (As := [.int (xs 1), .int (xs 2), .int (xs 3)]) (rest := []) (q0 := 0) C I rfl rfl m31_44 m31_46 m31_47 m31_45 ⟨by decide, by decide⟩ (Eq.trans (b := some 3) (by decide +kernel) rfl) rfl d31_SignalTheatreLaw_law_464) (c_Mod_value l D m0 m_input m_tree m_other m_now m_spare m_circuit m_old mf hm_vars ((xs 1)) ((xs 2)) ((xs 3))) m31_45 m31_8 [0, 1] [2] [] [0] rfl rfl (by decide) (by decide) (by decide) rfl rfl hl.1 d31_SignalTheatreLaw_law_464 (Nat.le_of_ble_eq_true rfl) (Nat.le_of_ble_eq_true rfl) (Nat.le_of_ble_eq_true rfl) (Nat.le_of_ble_eq_true rfl) (fun v w ty H locs hp I => ?_) (fun E w ty H locs q ce hp I hce hcv hcl hX9 => ?_)
    rotate_left
    · obtain ⟨_, _, hv, -⟩ := hp; cases hv
    obtain ⟨fs1, z2, hv, rfl, rfl, hq⟩ := hp
    cases hv
    rw [ho] at hq
    rw [if_pos hc] at hq
    have ht3 : fs1[2]? = some (.int 1) := hq
    have I : q_I D q_cl _ s [(o0, .inl (cO, 1, .inr (.inl go))), (m0, .inr (13, fs1))] [(cO, .long)] H _ := I
    refine W.eq (g2 := F0 m 467 ls [.long z2]) rfl ?_
    refine lv_lstore (lv' := [(6, .long z2), (5, .int 1), (4, .int 0), (3, .ref o0), (2, .ref m0), (1, .ref x0), (0, .ref b)]) hx hb d31_SignalTheatreLaw_law_467 hl (by decide) rfl (fun ls hl => ?_)
    refine lv_aload_n hx hb d31_SignalTheatreLaw_law_469 rfl (lv_at hl 4 rfl) ?_
    refine q_go (wr := [(o0, .inl (cO, 1, .inr (.inl go)))]) (tyr := [(cO, .long)]) C I (q_siteV (As := []) (rest := []) (q0 := 1) C I rfl rfl m31_9 m31_11 m31_12 m31_10 ⟨by decide, by decide⟩ (Eq.trans (b := some 0) (by decide +kernel) rfl) rfl d31_SignalTheatreLaw_law_470) (c_Mod_thrown l D m0 fs1 1 ht3) m31_10 m31_8 [1] [0] [] [0] rfl rfl (by decide) (by decide) (by decide) rfl rfl hl.1 d31_SignalTheatreLaw_law_470 (Nat.le_of_ble_eq_true rfl) (Nat.le_of_ble_eq_true rfl) (Nat.le_of_ble_eq_true rfl) (Nat.le_of_ble_eq_true rfl) (fun v w ty H locs hp I => ?_) (fun E w ty H locs q ce hp I hce hcv hcl hX9 => ?_)
    rotate_left
    · obtain ⟨hv, -⟩ := hp; cases hv
    obtain ⟨hv, rfl, rfl⟩ := hp
    cases hv
    have I : q_I D q_cl _ s [(o0, .inl (cO, 1, .inr (.inl go))), (m0, .inr (13, fs1))] [(cO, .long)] H _ := I
    refine W.eq (g2 := F0 m 473 ls [.int 1]) rfl ?_
    refine lv_iload hx hb d31_SignalTheatreLaw_law_473 (lv_at hl 1 rfl) ?_
    refine lv_icmp_eq (tgt := 480) hx hb d31_SignalTheatreLaw_law_475 (by decide) (fun _ => ?_) (fun h => absurd rfl h)
    refine lv_iload hx hb d31_SignalTheatreLaw_law_480 (lv_at hl 1 rfl) ?_
    refine lv_if_ne (tgt := 496) hx hb d31_SignalTheatreLaw_law_482 (by decide) (fun _ => ?_) (fun h => absurd h (by decide))
    refine lv_goto (tgt := 868) hx hb d31_SignalTheatreLaw_law_496 (by decide) ?_
    exact W.widen (k := 1300) (n := 5870000) (Nat.le_of_ble_eq_true rfl) (Nat.le_of_ble_eq_true rfl) (kk _ _ _ (q_pick I [] [] rfl (by decide) rfl) (lv_sub hl [2, 6] rfl))
  · skip
    have ho : o_value (xs 3) = Sum.inr "java/util/NoSuchElementException" := if_neg hc
    refine lv_aload_n hx hb d31_SignalTheatreLaw_law_420 rfl (lv_at hl 3 rfl) ?_
    refine lv_aload_n hx hb d31_SignalTheatreLaw_law_421 rfl (lv_at hl 4 rfl) ?_
    refine lv_iload hx hb d31_SignalTheatreLaw_law_422 (lv_at hl 0 rfl) ?_
    refine lv_iconst (v := 1) hx hb d31_SignalTheatreLaw_law_424 (by decide) ?_
    refine lv_iadd hx hb d31_SignalTheatreLaw_law_425 ?_
    refine W.eq (g2 := F0 m 426 ls [.int 1, .ref b, .ref x0]) rfl ?_
    refine va_sld hx hb hX hbl (Nat.not_le.mpr hbl) I.2.2.2 (i := 1) (by unfold vp_in; decide) d31_SignalTheatreLaw_law_426 ?_
    refine W.eq (g2 := F0 m 427 ls [.int (xs 1), .ref x0]) rfl ?_
    refine lv_aload_n hx hb d31_SignalTheatreLaw_law_427 rfl (lv_at hl 4 rfl) ?_
    refine lv_iload hx hb d31_SignalTheatreLaw_law_428 (lv_at hl 0 rfl) ?_
    refine lv_iconst (v := 2) hx hb d31_SignalTheatreLaw_law_430 (by decide) ?_
    refine lv_iadd hx hb d31_SignalTheatreLaw_law_431 ?_
    refine W.eq (g2 := F0 m 432 ls [.int 2, .ref b, .int (xs 1), .ref x0]) rfl ?_
    refine va_sld hx hb hX hbl (Nat.not_le.mpr hbl) I.2.2.2 (i := 2) (by unfold vp_in; decide) d31_SignalTheatreLaw_law_432 ?_
    refine W.eq (g2 := F0 m 433 ls [.int (xs 2), .int (xs 1), .ref x0]) rfl ?_
    refine lv_aload_n hx hb d31_SignalTheatreLaw_law_433 rfl (lv_at hl 4 rfl) ?_
    refine lv_iload hx hb d31_SignalTheatreLaw_law_434 (lv_at hl 0 rfl) ?_
    refine lv_iconst (v := 3) hx hb d31_SignalTheatreLaw_law_436 (by decide) ?_
    refine lv_iadd hx hb d31_SignalTheatreLaw_law_437 ?_
    refine W.eq (g2 := F0 m 438 ls [.int 3, .ref b, .int (xs 2), .int (xs 1), .ref x0]) rfl ?_
    refine va_sld hx hb hX hbl (Nat.not_le.mpr hbl) I.2.2.2 (i := 3) (by unfold vp_in; decide) d31_SignalTheatreLaw_law_438 ?_
    refine W.eq (g2 := F0 m 439 ls [.int (xs 3), .int (xs 2), .int (xs 1), .ref x0]) rfl ?_
    refine lv_aload_n hx hb d31_SignalTheatreLaw_law_439 rfl (lv_at hl 1 rfl) ?_
    refine q_goW (wr := [(m0, .inr (13, [.ref m_input, .int 0, .int 0, .int 0, .int (-1), .ref m_tree, .ref m_other, .ref m_now, .ref m_spare, .ref m_circuit, .ref m_old])), (m_circuit, .inr (17, mf))]) (tyr := []) C I (q_siteSW (As := [.ref x0, .int (xs 1), .int (xs 2), .int (xs 3), .ref o0]) (rest := []) C m31_41 m31_43 m31_3 m31_42 ⟨by decide, by decide⟩ (Eq.trans (b := some 5) (by decide +kernel) rfl) rfl d31_SignalTheatreLaw_law_440) (h_value_ex2 l D hl9 x0 ((xs 1)) ((xs 2)) ((xs 3)) o0 s_input s_circuit s_spare s_faults s_builder s_stage cO go ho) m31_42 m31_3 [0, 1] [2, 3] [0] [] rfl rfl (by decide) (by decide) (by decide) rfl rfl hl.1 d31_SignalTheatreLaw_law_440 (Nat.le_of_ble_eq_true rfl) (Nat.le_of_ble_eq_true rfl) (Nat.le_of_ble_eq_true rfl) (Nat.le_of_ble_eq_true rfl) (fun v w ty H locs hp I => ?_) (fun E w ty H locs q ce hp I hce hcv hcl hX9 => ?_)
    rotate_left
    · obtain ⟨hv, -⟩ := hp; cases hv
    obtain ⟨hv, rfl, rfl⟩ := hp
    cases hv
    have I : q_I D q_cl _ s [(m0, .inr (13, [.ref m_input, .int 0, .int 0, .int 0, .int (-1), .ref m_tree, .ref m_other, .ref m_now, .ref m_spare, .ref m_circuit, .ref m_old])), (m_circuit, .inr (17, mf)), (o0, .inl (cO, 1, .inr (.inl go)))] [(cO, .long)] H _ := I
    refine W.eq (g2 := F0 m 443 ls [.int 2]) rfl ?_
    refine lv_istore (lv' := [(5, .int 2), (4, .int 0), (3, .ref o0), (2, .ref m0), (1, .ref x0), (0, .ref b)]) hx hb d31_SignalTheatreLaw_law_443 hl (by decide) rfl (fun ls hl => ?_)
    refine lv_aload_n hx hb d31_SignalTheatreLaw_law_445 rfl (lv_at hl 3 rfl) ?_
    refine lv_aload_n hx hb d31_SignalTheatreLaw_law_446 rfl (lv_at hl 5 rfl) ?_
    refine lv_iload hx hb d31_SignalTheatreLaw_law_447 (lv_at hl 1 rfl) ?_
    refine lv_iconst (v := 1) hx hb d31_SignalTheatreLaw_law_449 (by decide) ?_
    refine lv_iadd hx hb d31_SignalTheatreLaw_law_450 ?_
    refine W.eq (g2 := F0 m 451 ls [.int 1, .ref b, .ref m0]) rfl ?_
    refine va_sld hx hb hX hbl (Nat.not_le.mpr hbl) I.2.2.2 (i := 1) (by unfold vp_in; decide) d31_SignalTheatreLaw_law_451 ?_
    refine W.eq (g2 := F0 m 452 ls [.int (xs 1), .ref m0]) rfl ?_
    refine lv_aload_n hx hb d31_SignalTheatreLaw_law_452 rfl (lv_at hl 5 rfl) ?_
    refine lv_iload hx hb d31_SignalTheatreLaw_law_453 (lv_at hl 1 rfl) ?_
    refine lv_iconst (v := 2) hx hb d31_SignalTheatreLaw_law_455 (by decide) ?_
    refine lv_iadd hx hb d31_SignalTheatreLaw_law_456 ?_
    refine W.eq (g2 := F0 m 457 ls [.int 2, .ref b, .int (xs 1), .ref m0]) rfl ?_
    refine va_sld hx hb hX hbl (Nat.not_le.mpr hbl) I.2.2.2 (i := 2) (by unfold vp_in; decide) d31_SignalTheatreLaw_law_457 ?_
    refine W.eq (g2 := F0 m 458 ls [.int (xs 2), .int (xs 1), .ref m0]) rfl ?_
    refine lv_aload_n hx hb d31_SignalTheatreLaw_law_458 rfl (lv_at hl 5 rfl) ?_
    refine lv_iload hx hb d31_SignalTheatreLaw_law_459 (lv_at hl 1 rfl) ?_
    refine lv_iconst (v := 3) hx hb d31_SignalTheatreLaw_law_461 (by decide) ?_
    refine lv_iadd hx hb d31_SignalTheatreLaw_law_462 ?_
    refine W.eq (g2 := F0 m 463 ls [.int 3, .ref b, .int (xs 2), .int (xs 1), .ref m0]) rfl ?_
    refine va_sld hx hb hX hbl (Nat.not_le.mpr hbl) I.2.2.2 (i := 3) (by unfold vp_in; decide) d31_SignalTheatreLaw_law_463 ?_
    refine W.eq (g2 := F0 m 464 ls [.int (xs 3), .int (xs 2), .int (xs 1), .ref m0]) rfl ?_
    refine q_go (wr := [(o0, .inl (cO, 1, .inr (.inl go)))]) (tyr := [(cO, .long)]) C I (q_siteV (As := [.int (xs 1), .int (xs 2), .int (xs 3)]) (rest := []) (q0 := 0) C I rfl rfl m31_44 m31_46 m31_47 m31_45 ⟨by decide, by decide⟩ (Eq.trans (b := some 3) (by decide +kernel) rfl) rfl d31_SignalTheatreLaw_law_464) (c_Mod_value l D m0 m_input m_tree m_other m_now m_spare m_circuit m_old mf hm_vars ((xs 1)) ((xs 2)) ((xs 3))) m31_45 m31_8 [0, 1] [2] [] [0] rfl rfl (by decide) (by decide) (by decide) rfl rfl hl.1 d31_SignalTheatreLaw_law_464 (Nat.le_of_ble_eq_true rfl) (Nat.le_of_ble_eq_true rfl) (Nat.le_of_ble_eq_true rfl) (Nat.le_of_ble_eq_true rfl) (fun v w ty H locs hp I => ?_) (fun E w ty H locs q ce hp I hce hcv hcl hX9 => ?_)
    rotate_left
    · obtain ⟨_, _, hv, -⟩ := hp; cases hv
    obtain ⟨fs4, z5, hv, rfl, rfl, hq⟩ := hp
    cases hv
    rw [ho] at hq
    rw [if_neg hc] at hq
    have ht6 : fs4[2]? = some (.int 2) := hq
    have I : q_I D q_cl _ s [(o0, .inl (cO, 1, .inr (.inl go))), (m0, .inr (13, fs4))] [(cO, .long)] H _ := I
    refine W.eq (g2 := F0 m 467 ls [.long z5]) rfl ?_
    refine lv_lstore (lv' := [(6, .long z5), (5, .int 2), (4, .int 0), (3, .ref o0), (2, .ref m0), (1, .ref x0), (0, .ref b)]) hx hb d31_SignalTheatreLaw_law_467 hl (by decide) rfl (fun ls hl => ?_)
    refine lv_aload_n hx hb d31_SignalTheatreLaw_law_469 rfl (lv_at hl 4 rfl) ?_
    refine q_go (wr := [(o0, .inl (cO, 1, .inr (.inl go)))]) (tyr := [(cO, .long)]) C I (q_siteV (As := []) (rest := []) (q0 := 1) C I rfl rfl m31_9 m31_11 m31_12 m31_10 ⟨by decide, by decide⟩ (Eq.trans (b := some 0) (by decide +kernel) rfl) rfl d31_SignalTheatreLaw_law_470) (c_Mod_thrown l D m0 fs4 2 ht6) m31_10 m31_8 [1] [0] [] [0] rfl rfl (by decide) (by decide) (by decide) rfl rfl hl.1 d31_SignalTheatreLaw_law_470 (Nat.le_of_ble_eq_true rfl) (Nat.le_of_ble_eq_true rfl) (Nat.le_of_ble_eq_true rfl) (Nat.le_of_ble_eq_true rfl) (fun v w ty H locs hp I => ?_) (fun E w ty H locs q ce hp I hce hcv hcl hX9 => ?_)
    rotate_left
    · obtain ⟨hv, -⟩ := hp; cases hv
    obtain ⟨hv, rfl, rfl⟩ := hp
    cases hv
    have I : q_I D q_cl _ s [(o0, .inl (cO, 1, .inr (.inl go))), (m0, .inr (13, fs4))] [(cO, .long)] H _ := I
    refine W.eq (g2 := F0 m 473 ls [.int 2]) rfl ?_
    refine lv_iload hx hb d31_SignalTheatreLaw_law_473 (lv_at hl 1 rfl) ?_
    refine lv_icmp_eq (tgt := 480) hx hb d31_SignalTheatreLaw_law_475 (by decide) (fun _ => ?_) (fun h => absurd rfl h)
    refine lv_iload hx hb d31_SignalTheatreLaw_law_480 (lv_at hl 1 rfl) ?_
    refine lv_if_ne (tgt := 496) hx hb d31_SignalTheatreLaw_law_482 (by decide) (fun _ => ?_) (fun h => absurd h (by decide))
    refine lv_goto (tgt := 868) hx hb d31_SignalTheatreLaw_law_496 (by decide) ?_
    exact W.widen (k := 1300) (n := 5870000) (Nat.le_of_ble_eq_true rfl) (Nat.le_of_ble_eq_true rfl) (kk _ _ _ (q_pick I [] [] rfl (by decide) rfl) (lv_sub hl [2, 6] rfl))
set_option maxHeartbeats 4000000 in
set_option maxRecDepth 100000 in
/-- the law's case set -/
theorem lc_set {p : Program} {l : Launch} {e : Env} {s : State} {m : MethodId} {below : List Frame} {meth : Method} {c : Code} {Q : State → Prop} {D : va_G} {H : Heap} {locs : List Loc} {ls : Array Slot} {b : Nat} {xs : Nat → Int32} {x0 : Nat} {s_input : Nat} {s_circuit : Nat} {s_spare : Nat} {s_faults : Nat} {s_builder : Nat} {s_stage : Nat} {m0 : Nat} {m_input : Nat} {m_tree : Nat} {m_other : Nat} {m_now : Nat} {m_spare : Nat} {m_circuit : Nat} {m_old : Nat} {mf : List Value} {o0 : Nat} (hl9 : l.stackTraces = false) (C : q_C p s m meth c #[Value.ref b] code 8 "SignalTheatreLaw" (lw_A s)) (hX : va_X b 7 xs s s.heap) (hbl : b < s.heap.size) (hm_vars : mf[24]? = some (.int 0))
    (I : q_I D q_cl (lw_A s) s [(x0, .inr (0, [.ref s_input, .int 0, .int 0, .ref s_circuit, .ref s_spare, .ref s_faults, .ref s_builder, .ref s_stage])), (m0, .inr (13, [.ref m_input, .int 0, .int 0, .int 0, .int (-1), .ref m_tree, .ref m_other, .ref m_now, .ref m_spare, .ref m_circuit, .ref m_old])), (m_circuit, .inr (17, mf))] [] H locs) (hl : lv_has ls 8 [(4, .int 0), (3, .ref o0), (2, .ref m0), (1, .ref x0), (0, .ref b)])
    (kk : ∀ (H : Heap) (locs : List Loc) (ls : Array Slot), q_I D q_cl (lw_A s) s [] [] H locs → lv_has ls 8 [(4, .int 0), (0, .ref b)] → W p l e room_1 s m #[Value.ref b] below meth c H locs 1300 5870000 Q (F0 m 868 ls [])) :
    W p l e room_1 s m #[Value.ref b] below meth c H locs 1170 5867776 Q (F0 m 499 ls []) := by
  have hx := C.1
  have hb := C.2.1
  refine lv_aload_n hx hb d31_SignalTheatreLaw_law_499 rfl (lv_at hl 3 rfl) ?_
  refine lv_aload_n hx hb d31_SignalTheatreLaw_law_500 rfl (lv_at hl 4 rfl) ?_
  refine lv_iload hx hb d31_SignalTheatreLaw_law_501 (lv_at hl 0 rfl) ?_
  refine lv_iconst (v := 1) hx hb d31_SignalTheatreLaw_law_503 (by decide) ?_
  refine lv_iadd hx hb d31_SignalTheatreLaw_law_504 ?_
  refine W.eq (g2 := F0 m 505 ls [.int 1, .ref b, .ref x0]) rfl ?_
  refine va_sld hx hb hX hbl (Nat.not_le.mpr hbl) I.2.2.2 (i := 1) (by unfold vp_in; decide) d31_SignalTheatreLaw_law_505 ?_
  refine W.eq (g2 := F0 m 506 ls [.int (xs 1), .ref x0]) rfl ?_
  refine lv_aload_n hx hb d31_SignalTheatreLaw_law_506 rfl (lv_at hl 4 rfl) ?_
  refine lv_iload hx hb d31_SignalTheatreLaw_law_507 (lv_at hl 0 rfl) ?_
  refine lv_iconst (v := 2) hx hb d31_SignalTheatreLaw_law_509 (by decide) ?_
  refine lv_iadd hx hb d31_SignalTheatreLaw_law_510 ?_
  refine W.eq (g2 := F0 m 511 ls [.int 2, .ref b, .int (xs 1), .ref x0]) rfl ?_
  refine va_sld hx hb hX hbl (Nat.not_le.mpr hbl) I.2.2.2 (i := 2) (by unfold vp_in; decide) d31_SignalTheatreLaw_law_511 ?_
  refine W.eq (g2 := F0 m 512 ls [.int (xs 2), .int (xs 1), .ref x0]) rfl ?_
  refine lv_aload_n hx hb d31_SignalTheatreLaw_law_512 rfl (lv_at hl 4 rfl) ?_
  refine lv_iload hx hb d31_SignalTheatreLaw_law_513 (lv_at hl 0 rfl) ?_
  refine lv_iconst (v := 3) hx hb d31_SignalTheatreLaw_law_515 (by decide) ?_
  refine lv_iadd hx hb d31_SignalTheatreLaw_law_516 ?_
  refine W.eq (g2 := F0 m 517 ls [.int 3, .ref b, .int (xs 2), .int (xs 1), .ref x0]) rfl ?_
  refine va_sld hx hb hX hbl (Nat.not_le.mpr hbl) I.2.2.2 (i := 3) (by unfold vp_in; decide) d31_SignalTheatreLaw_law_517 ?_
  refine W.eq (g2 := F0 m 518 ls [.int (xs 3), .int (xs 2), .int (xs 1), .ref x0]) rfl ?_
  refine lv_i2l hx hb d31_SignalTheatreLaw_law_518 rfl ?_
  refine lv_bipush (v := 32) hx hb d31_SignalTheatreLaw_law_519 (by decide) ?_
  refine lv_lshl hx hb d31_SignalTheatreLaw_law_521 rfl ?_
  refine lv_topl (fun y1 _ => ?_)
  refine lv_aload_n hx hb d31_SignalTheatreLaw_law_522 rfl (lv_at hl 4 rfl) ?_
  refine lv_iload hx hb d31_SignalTheatreLaw_law_523 (lv_at hl 0 rfl) ?_
  refine lv_iconst (v := 4) hx hb d31_SignalTheatreLaw_law_525 (by decide) ?_
  refine lv_iadd hx hb d31_SignalTheatreLaw_law_526 ?_
  refine W.eq (g2 := F0 m 527 ls [.int 4, .ref b, .long y1, .int (xs 2), .int (xs 1), .ref x0]) rfl ?_
  refine va_sld hx hb hX hbl (Nat.not_le.mpr hbl) I.2.2.2 (i := 4) (by unfold vp_in; decide) d31_SignalTheatreLaw_law_527 ?_
  refine W.eq (g2 := F0 m 528 ls [.int (xs 4), .long y1, .int (xs 2), .int (xs 1), .ref x0]) rfl ?_
  refine lv_i2l hx hb d31_SignalTheatreLaw_law_528 rfl ?_
  refine lv_ldc2 hx hb C.2.2.2.1 (C.2.2.2.2.1 _ m31_48) d31_SignalTheatreLaw_law_529 ?_
  refine lv_land hx hb d31_SignalTheatreLaw_law_532 ?_
  refine lv_topl (fun y2 _ => ?_)
  refine lv_lor hx hb d31_SignalTheatreLaw_law_533 ?_
  refine lv_topl (fun y3 _ => ?_)
  refine lv_aload_n hx hb d31_SignalTheatreLaw_law_534 rfl (lv_at hl 4 rfl) ?_
  refine lv_iload hx hb d31_SignalTheatreLaw_law_535 (lv_at hl 0 rfl) ?_
  refine lv_iconst (v := 5) hx hb d31_SignalTheatreLaw_law_537 (by decide) ?_
  refine lv_iadd hx hb d31_SignalTheatreLaw_law_538 ?_
  refine W.eq (g2 := F0 m 539 ls [.int 5, .ref b, .long y3, .int (xs 2), .int (xs 1), .ref x0]) rfl ?_
  refine va_sld hx hb hX hbl (Nat.not_le.mpr hbl) I.2.2.2 (i := 5) (by unfold vp_in; decide) d31_SignalTheatreLaw_law_539 ?_
  refine W.eq (g2 := F0 m 540 ls [.int (xs 5), .long y3, .int (xs 2), .int (xs 1), .ref x0]) rfl ?_
  refine lv_i2l hx hb d31_SignalTheatreLaw_law_540 rfl ?_
  refine lv_bipush (v := 32) hx hb d31_SignalTheatreLaw_law_541 (by decide) ?_
  refine lv_lshl hx hb d31_SignalTheatreLaw_law_543 rfl ?_
  refine lv_topl (fun y4 _ => ?_)
  refine lv_aload_n hx hb d31_SignalTheatreLaw_law_544 rfl (lv_at hl 4 rfl) ?_
  refine lv_iload hx hb d31_SignalTheatreLaw_law_545 (lv_at hl 0 rfl) ?_
  refine lv_bipush (v := 6) hx hb d31_SignalTheatreLaw_law_547 (by decide) ?_
  refine lv_iadd hx hb d31_SignalTheatreLaw_law_549 ?_
  refine W.eq (g2 := F0 m 550 ls [.int 6, .ref b, .long y4, .long y3, .int (xs 2), .int (xs 1), .ref x0]) rfl ?_
  refine va_sld hx hb hX hbl (Nat.not_le.mpr hbl) I.2.2.2 (i := 6) (by unfold vp_in; decide) d31_SignalTheatreLaw_law_550 ?_
  refine W.eq (g2 := F0 m 551 ls [.int (xs 6), .long y4, .long y3, .int (xs 2), .int (xs 1), .ref x0]) rfl ?_
  refine lv_i2l hx hb d31_SignalTheatreLaw_law_551 rfl ?_
  refine lv_ldc2 hx hb C.2.2.2.1 (C.2.2.2.2.1 _ m31_48) d31_SignalTheatreLaw_law_552 ?_
  refine lv_land hx hb d31_SignalTheatreLaw_law_555 ?_
  refine lv_topl (fun y5 _ => ?_)
  refine lv_lor hx hb d31_SignalTheatreLaw_law_556 ?_
  refine lv_topl (fun y6 _ => ?_)
  refine q_goW (wr := [(m0, .inr (13, [.ref m_input, .int 0, .int 0, .int 0, .int (-1), .ref m_tree, .ref m_other, .ref m_now, .ref m_spare, .ref m_circuit, .ref m_old])), (m_circuit, .inr (17, mf))]) (tyr := []) C I (q_siteSW (As := [.ref x0, .int (xs 1), .int (xs 2), .long y3, .long y6]) (rest := []) C m31_49 m31_51 m31_3 m31_50 ⟨by decide, by decide⟩ (Eq.trans (b := some 5) (by decide +kernel) rfl) rfl d31_SignalTheatreLaw_law_557) (h_set_ex1 l D hl9 x0 ((xs 1)) ((xs 2)) y3 y6 s_input s_circuit s_spare s_faults s_builder s_stage) m31_50 m31_3 [0] [1, 2] [] [] rfl rfl (by decide) (by decide) (by decide) rfl rfl hl.1 d31_SignalTheatreLaw_law_557 (Nat.le_of_ble_eq_true rfl) (Nat.le_of_ble_eq_true rfl) (Nat.le_of_ble_eq_true rfl) (Nat.le_of_ble_eq_true rfl) (fun v w ty H locs hp I => ?_) (fun E w ty H locs q ce hp I hce hcv hcl hX9 => ?_)
  rotate_left
  · obtain ⟨hv, -⟩ := hp; cases hv
  obtain ⟨hv, rfl, rfl⟩ := hp
  cases hv
  have I : q_I D q_cl _ s [(m0, .inr (13, [.ref m_input, .int 0, .int 0, .int 0, .int (-1), .ref m_tree, .ref m_other, .ref m_now, .ref m_spare, .ref m_circuit, .ref m_old])), (m_circuit, .inr (17, mf))] [] H _ := I
  refine W.eq (g2 := F0 m 560 ls [.int 1]) rfl ?_
  refine lv_istore (lv' := [(5, .int 1), (4, .int 0), (3, .ref o0), (2, .ref m0), (1, .ref x0), (0, .ref b)]) hx hb d31_SignalTheatreLaw_law_560 hl (by decide) rfl (fun ls hl => ?_)
  refine lv_aload_n hx hb d31_SignalTheatreLaw_law_562 rfl (lv_at hl 3 rfl) ?_
  refine lv_aload_n hx hb d31_SignalTheatreLaw_law_563 rfl (lv_at hl 5 rfl) ?_
  refine lv_iload hx hb d31_SignalTheatreLaw_law_564 (lv_at hl 1 rfl) ?_
  refine lv_iconst (v := 1) hx hb d31_SignalTheatreLaw_law_566 (by decide) ?_
  refine lv_iadd hx hb d31_SignalTheatreLaw_law_567 ?_
  refine W.eq (g2 := F0 m 568 ls [.int 1, .ref b, .ref m0]) rfl ?_
  refine va_sld hx hb hX hbl (Nat.not_le.mpr hbl) I.2.2.2 (i := 1) (by unfold vp_in; decide) d31_SignalTheatreLaw_law_568 ?_
  refine W.eq (g2 := F0 m 569 ls [.int (xs 1), .ref m0]) rfl ?_
  refine lv_aload_n hx hb d31_SignalTheatreLaw_law_569 rfl (lv_at hl 5 rfl) ?_
  refine lv_iload hx hb d31_SignalTheatreLaw_law_570 (lv_at hl 1 rfl) ?_
  refine lv_iconst (v := 2) hx hb d31_SignalTheatreLaw_law_572 (by decide) ?_
  refine lv_iadd hx hb d31_SignalTheatreLaw_law_573 ?_
  refine W.eq (g2 := F0 m 574 ls [.int 2, .ref b, .int (xs 1), .ref m0]) rfl ?_
  refine va_sld hx hb hX hbl (Nat.not_le.mpr hbl) I.2.2.2 (i := 2) (by unfold vp_in; decide) d31_SignalTheatreLaw_law_574 ?_
  refine W.eq (g2 := F0 m 575 ls [.int (xs 2), .int (xs 1), .ref m0]) rfl ?_
  refine lv_aload_n hx hb d31_SignalTheatreLaw_law_575 rfl (lv_at hl 5 rfl) ?_
  refine lv_iload hx hb d31_SignalTheatreLaw_law_576 (lv_at hl 1 rfl) ?_
  refine lv_iconst (v := 3) hx hb d31_SignalTheatreLaw_law_578 (by decide) ?_
  refine lv_iadd hx hb d31_SignalTheatreLaw_law_579 ?_
  refine W.eq (g2 := F0 m 580 ls [.int 3, .ref b, .int (xs 2), .int (xs 1), .ref m0]) rfl ?_
  refine va_sld hx hb hX hbl (Nat.not_le.mpr hbl) I.2.2.2 (i := 3) (by unfold vp_in; decide) d31_SignalTheatreLaw_law_580 ?_
  refine W.eq (g2 := F0 m 581 ls [.int (xs 3), .int (xs 2), .int (xs 1), .ref m0]) rfl ?_
  refine lv_i2l hx hb d31_SignalTheatreLaw_law_581 rfl ?_
  refine lv_bipush (v := 32) hx hb d31_SignalTheatreLaw_law_582 (by decide) ?_
  refine lv_lshl hx hb d31_SignalTheatreLaw_law_584 rfl ?_
  refine lv_topl (fun y7 _ => ?_)
  refine lv_aload_n hx hb d31_SignalTheatreLaw_law_585 rfl (lv_at hl 5 rfl) ?_
  refine lv_iload hx hb d31_SignalTheatreLaw_law_586 (lv_at hl 1 rfl) ?_
  refine lv_iconst (v := 4) hx hb d31_SignalTheatreLaw_law_588 (by decide) ?_
  refine lv_iadd hx hb d31_SignalTheatreLaw_law_589 ?_
  refine W.eq (g2 := F0 m 590 ls [.int 4, .ref b, .long y7, .int (xs 2), .int (xs 1), .ref m0]) rfl ?_
  refine va_sld hx hb hX hbl (Nat.not_le.mpr hbl) I.2.2.2 (i := 4) (by unfold vp_in; decide) d31_SignalTheatreLaw_law_590 ?_
  refine W.eq (g2 := F0 m 591 ls [.int (xs 4), .long y7, .int (xs 2), .int (xs 1), .ref m0]) rfl ?_
  refine lv_i2l hx hb d31_SignalTheatreLaw_law_591 rfl ?_
  refine lv_ldc2 hx hb C.2.2.2.1 (C.2.2.2.2.1 _ m31_48) d31_SignalTheatreLaw_law_592 ?_
  refine lv_land hx hb d31_SignalTheatreLaw_law_595 ?_
  refine lv_topl (fun y8 _ => ?_)
  refine lv_lor hx hb d31_SignalTheatreLaw_law_596 ?_
  refine lv_topl (fun y9 _ => ?_)
  refine lv_aload_n hx hb d31_SignalTheatreLaw_law_597 rfl (lv_at hl 5 rfl) ?_
  refine lv_iload hx hb d31_SignalTheatreLaw_law_598 (lv_at hl 1 rfl) ?_
  refine lv_iconst (v := 5) hx hb d31_SignalTheatreLaw_law_600 (by decide) ?_
  refine lv_iadd hx hb d31_SignalTheatreLaw_law_601 ?_
  refine W.eq (g2 := F0 m 602 ls [.int 5, .ref b, .long y9, .int (xs 2), .int (xs 1), .ref m0]) rfl ?_
  refine va_sld hx hb hX hbl (Nat.not_le.mpr hbl) I.2.2.2 (i := 5) (by unfold vp_in; decide) d31_SignalTheatreLaw_law_602 ?_
  refine W.eq (g2 := F0 m 603 ls [.int (xs 5), .long y9, .int (xs 2), .int (xs 1), .ref m0]) rfl ?_
  refine lv_i2l hx hb d31_SignalTheatreLaw_law_603 rfl ?_
  refine lv_bipush (v := 32) hx hb d31_SignalTheatreLaw_law_604 (by decide) ?_
  refine lv_lshl hx hb d31_SignalTheatreLaw_law_606 rfl ?_
  refine lv_topl (fun y10 _ => ?_)
  refine lv_aload_n hx hb d31_SignalTheatreLaw_law_607 rfl (lv_at hl 5 rfl) ?_
  refine lv_iload hx hb d31_SignalTheatreLaw_law_608 (lv_at hl 1 rfl) ?_
  refine lv_bipush (v := 6) hx hb d31_SignalTheatreLaw_law_610 (by decide) ?_
  refine lv_iadd hx hb d31_SignalTheatreLaw_law_612 ?_
  refine W.eq (g2 := F0 m 613 ls [.int 6, .ref b, .long y10, .long y9, .int (xs 2), .int (xs 1), .ref m0]) rfl ?_
  refine va_sld hx hb hX hbl (Nat.not_le.mpr hbl) I.2.2.2 (i := 6) (by unfold vp_in; decide) d31_SignalTheatreLaw_law_613 ?_
  refine W.eq (g2 := F0 m 614 ls [.int (xs 6), .long y10, .long y9, .int (xs 2), .int (xs 1), .ref m0]) rfl ?_
  refine lv_i2l hx hb d31_SignalTheatreLaw_law_614 rfl ?_
  refine lv_ldc2 hx hb C.2.2.2.1 (C.2.2.2.2.1 _ m31_48) d31_SignalTheatreLaw_law_615 ?_
  refine lv_land hx hb d31_SignalTheatreLaw_law_618 ?_
  refine lv_topl (fun y11 _ => ?_)
  refine lv_lor hx hb d31_SignalTheatreLaw_law_619 ?_
  refine lv_topl (fun y12 _ => ?_)
  refine q_go (wr := []) (tyr := []) C I (q_siteV (As := [.int (xs 1), .int (xs 2), .long y9, .long y12]) (rest := []) (q0 := 0) C I rfl rfl m31_52 m31_54 m31_55 m31_53 ⟨by decide, by decide⟩ (Eq.trans (b := some 4) (by decide +kernel) rfl) rfl d31_SignalTheatreLaw_law_620) (c_Mod_set l D m0 m_input m_tree m_other m_now m_spare m_circuit m_old mf hm_vars ((xs 1)) ((xs 2)) y9 y12) m31_53 m31_8 [0, 1] [] [] [] rfl rfl (by decide) (by decide) (by decide) rfl rfl hl.1 d31_SignalTheatreLaw_law_620 (Nat.le_of_ble_eq_true rfl) (Nat.le_of_ble_eq_true rfl) (Nat.le_of_ble_eq_true rfl) (Nat.le_of_ble_eq_true rfl) (fun v w ty H locs hp I => ?_) (fun E w ty H locs q ce hp I hce hcv hcl hX9 => ?_)
  rotate_left
  · obtain ⟨_, hv, -⟩ := hp; cases hv
  obtain ⟨fs13, hv, rfl, rfl, hq⟩ := hp
  cases hv
  have ht15 : fs13[2]? = some (.int 1) := hq
  have I : q_I D q_cl _ s [(m0, .inr (13, fs13))] [] H _ := I
  refine W.eq (g2 := F0 m 623 ls []) rfl ?_
  refine lv_aload_n hx hb d31_SignalTheatreLaw_law_623 rfl (lv_at hl 3 rfl) ?_
  refine q_go (wr := []) (tyr := []) C I (q_siteV (As := []) (rest := []) (q0 := 0) C I rfl rfl m31_9 m31_11 m31_12 m31_10 ⟨by decide, by decide⟩ (Eq.trans (b := some 0) (by decide +kernel) rfl) rfl d31_SignalTheatreLaw_law_624) (c_Mod_thrown l D m0 fs13 1 ht15) m31_10 m31_8 [0] [] [] [] rfl rfl (by decide) (by decide) (by decide) rfl rfl hl.1 d31_SignalTheatreLaw_law_624 (Nat.le_of_ble_eq_true rfl) (Nat.le_of_ble_eq_true rfl) (Nat.le_of_ble_eq_true rfl) (Nat.le_of_ble_eq_true rfl) (fun v w ty H locs hp I => ?_) (fun E w ty H locs q ce hp I hce hcv hcl hX9 => ?_)
  rotate_left
  · obtain ⟨hv, -⟩ := hp; cases hv
  obtain ⟨hv, rfl, rfl⟩ := hp
  cases hv
  have I : q_I D q_cl _ s [(m0, .inr (13, fs13))] [] H _ := I
  refine W.eq (g2 := F0 m 627 ls [.int 1]) rfl ?_
  refine lv_iload hx hb d31_SignalTheatreLaw_law_627 (lv_at hl 0 rfl) ?_
  refine lv_icmp_eq (tgt := 634) hx hb d31_SignalTheatreLaw_law_629 (by decide) (fun _ => ?_) (fun h => absurd rfl h)
  refine lv_goto (tgt := 868) hx hb d31_SignalTheatreLaw_law_634 (by decide) ?_
  exact W.widen (k := 1300) (n := 5870000) (Nat.le_of_ble_eq_true rfl) (Nat.le_of_ble_eq_true rfl) (kk _ _ _ (q_pick I [] [] rfl (by decide) rfl) (lv_sub hl [1, 5] rfl))
set_option maxHeartbeats 4000000 in
set_option maxRecDepth 100000 in
/-- the law's case told -/
theorem lc_told {p : Program} {l : Launch} {e : Env} {s : State} {m : MethodId} {below : List Frame} {meth : Method} {c : Code} {Q : State → Prop} {D : va_G} {H : Heap} {locs : List Loc} {ls : Array Slot} {b : Nat} {xs : Nat → Int32} {x0 : Nat} {s_input : Nat} {s_circuit : Nat} {s_spare : Nat} {s_faults : Nat} {s_builder : Nat} {s_stage : Nat} {o0 : Nat} {cO : ClassId} {go : Nat → Int64} {m0 : Nat} {m_input : Nat} {m_tree : Nat} {m_other : Nat} {m_now : Nat} {m_spare : Nat} {m_circuit : Nat} {m_old : Nat} {mf : List Value} (hl9 : l.stackTraces = false) (C : q_C p s m meth c #[Value.ref b] code 8 "SignalTheatreLaw" (lw_A s)) (hX : va_X b 7 xs s s.heap) (hbl : b < s.heap.size) (hm_vars : mf[24]? = some (.int 0))
    (I : q_I D q_cl (lw_A s) s [(x0, .inr (0, [.ref s_input, .int 0, .int 0, .ref s_circuit, .ref s_spare, .ref s_faults, .ref s_builder, .ref s_stage])), (o0, .inl (cO, 1, .inr (.inl go))), (m0, .inr (13, [.ref m_input, .int 0, .int 0, .int 0, .int (-1), .ref m_tree, .ref m_other, .ref m_now, .ref m_spare, .ref m_circuit, .ref m_old])), (m_circuit, .inr (17, mf))] [(cO, .long)] H locs) (hl : lv_has ls 8 [(4, .int 0), (3, .ref o0), (2, .ref m0), (1, .ref x0), (0, .ref b)])
    (kk : ∀ (H : Heap) (locs : List Loc) (ls : Array Slot), q_I D q_cl (lw_A s) s [] [] H locs → lv_has ls 8 [(4, .int 0), (0, .ref b)] → W p l e room_1 s m #[Value.ref b] below meth c H locs 1300 5870000 Q (F0 m 868 ls [])) :
    W p l e room_1 s m #[Value.ref b] below meth c H locs 1170 5867776 Q (F0 m 637 ls []) := by
  have hx := C.1
  have hb := C.2.1
  by_cases hc : xs 2 < 0 ∨ ¬ xs 2 ≤ 4
  · skip
    have ho : o_told (xs 2) = Sum.inr "java/lang/IllegalArgumentException" := if_pos hc
    refine lv_aload_n hx hb d31_SignalTheatreLaw_law_637 rfl (lv_at hl 3 rfl) ?_
    refine lv_aload_n hx hb d31_SignalTheatreLaw_law_638 rfl (lv_at hl 4 rfl) ?_
    refine lv_iload hx hb d31_SignalTheatreLaw_law_639 (lv_at hl 0 rfl) ?_
    refine lv_iconst (v := 1) hx hb d31_SignalTheatreLaw_law_641 (by decide) ?_
    refine lv_iadd hx hb d31_SignalTheatreLaw_law_642 ?_
    refine W.eq (g2 := F0 m 643 ls [.int 1, .ref b, .ref x0]) rfl ?_
    refine va_sld hx hb hX hbl (Nat.not_le.mpr hbl) I.2.2.2 (i := 1) (by unfold vp_in; decide) d31_SignalTheatreLaw_law_643 ?_
    refine W.eq (g2 := F0 m 644 ls [.int (xs 1), .ref x0]) rfl ?_
    refine lv_aload_n hx hb d31_SignalTheatreLaw_law_644 rfl (lv_at hl 4 rfl) ?_
    refine lv_iload hx hb d31_SignalTheatreLaw_law_645 (lv_at hl 0 rfl) ?_
    refine lv_iconst (v := 2) hx hb d31_SignalTheatreLaw_law_647 (by decide) ?_
    refine lv_iadd hx hb d31_SignalTheatreLaw_law_648 ?_
    refine W.eq (g2 := F0 m 649 ls [.int 2, .ref b, .int (xs 1), .ref x0]) rfl ?_
    refine va_sld hx hb hX hbl (Nat.not_le.mpr hbl) I.2.2.2 (i := 2) (by unfold vp_in; decide) d31_SignalTheatreLaw_law_649 ?_
    refine W.eq (g2 := F0 m 650 ls [.int (xs 2), .int (xs 1), .ref x0]) rfl ?_
    refine lv_aload_n hx hb d31_SignalTheatreLaw_law_650 rfl (lv_at hl 1 rfl) ?_
    refine q_goW (wr := [(m0, .inr (13, [.ref m_input, .int 0, .int 0, .int 0, .int (-1), .ref m_tree, .ref m_other, .ref m_now, .ref m_spare, .ref m_circuit, .ref m_old])), (m_circuit, .inr (17, mf))]) (tyr := []) C I (q_siteSW (As := [.ref x0, .int (xs 1), .int (xs 2), .ref o0]) (rest := []) C m31_56 m31_58 m31_3 m31_57 ⟨by decide, by decide⟩ (Eq.trans (b := some 4) (by decide +kernel) rfl) rfl d31_SignalTheatreLaw_law_651) (h_told_ex1 l D hl9 x0 ((xs 1)) ((xs 2)) o0 s_input s_circuit s_spare s_faults s_builder s_stage cO go ho) m31_57 m31_3 [0, 1] [2, 3] [0] [] rfl rfl (by decide) (by decide) (by decide) rfl rfl hl.1 d31_SignalTheatreLaw_law_651 (Nat.le_of_ble_eq_true rfl) (Nat.le_of_ble_eq_true rfl) (Nat.le_of_ble_eq_true rfl) (Nat.le_of_ble_eq_true rfl) (fun v w ty H locs hp I => ?_) (fun E w ty H locs q ce hp I hce hcv hcl hX9 => ?_)
    rotate_left
    · obtain ⟨hv, -⟩ := hp; cases hv
    obtain ⟨hv, rfl, rfl⟩ := hp
    cases hv
    have I : q_I D q_cl _ s [(m0, .inr (13, [.ref m_input, .int 0, .int 0, .int 0, .int (-1), .ref m_tree, .ref m_other, .ref m_now, .ref m_spare, .ref m_circuit, .ref m_old])), (m_circuit, .inr (17, mf)), (o0, .inl (cO, 1, .inr (.inl go)))] [(cO, .long)] H _ := I
    refine W.eq (g2 := F0 m 654 ls [.int 1]) rfl ?_
    refine lv_istore (lv' := [(5, .int 1), (4, .int 0), (3, .ref o0), (2, .ref m0), (1, .ref x0), (0, .ref b)]) hx hb d31_SignalTheatreLaw_law_654 hl (by decide) rfl (fun ls hl => ?_)
    refine lv_aload_n hx hb d31_SignalTheatreLaw_law_656 rfl (lv_at hl 3 rfl) ?_
    refine lv_aload_n hx hb d31_SignalTheatreLaw_law_657 rfl (lv_at hl 5 rfl) ?_
    refine lv_iload hx hb d31_SignalTheatreLaw_law_658 (lv_at hl 1 rfl) ?_
    refine lv_iconst (v := 1) hx hb d31_SignalTheatreLaw_law_660 (by decide) ?_
    refine lv_iadd hx hb d31_SignalTheatreLaw_law_661 ?_
    refine W.eq (g2 := F0 m 662 ls [.int 1, .ref b, .ref m0]) rfl ?_
    refine va_sld hx hb hX hbl (Nat.not_le.mpr hbl) I.2.2.2 (i := 1) (by unfold vp_in; decide) d31_SignalTheatreLaw_law_662 ?_
    refine W.eq (g2 := F0 m 663 ls [.int (xs 1), .ref m0]) rfl ?_
    refine lv_aload_n hx hb d31_SignalTheatreLaw_law_663 rfl (lv_at hl 5 rfl) ?_
    refine lv_iload hx hb d31_SignalTheatreLaw_law_664 (lv_at hl 1 rfl) ?_
    refine lv_iconst (v := 2) hx hb d31_SignalTheatreLaw_law_666 (by decide) ?_
    refine lv_iadd hx hb d31_SignalTheatreLaw_law_667 ?_
    refine W.eq (g2 := F0 m 668 ls [.int 2, .ref b, .int (xs 1), .ref m0]) rfl ?_
    refine va_sld hx hb hX hbl (Nat.not_le.mpr hbl) I.2.2.2 (i := 2) (by unfold vp_in; decide) d31_SignalTheatreLaw_law_668 ?_
    refine W.eq (g2 := F0 m 669 ls [.int (xs 2), .int (xs 1), .ref m0]) rfl ?_
    refine q_go (wr := [(o0, .inl (cO, 1, .inr (.inl go)))]) (tyr := [(cO, .long)]) C I (q_siteV (As := [.int (xs 1), .int (xs 2)]) (rest := []) (q0 := 0) C I rfl rfl m31_59 m31_61 m31_62 m31_60 ⟨by decide, by decide⟩ (Eq.trans (b := some 2) (by decide +kernel) rfl) rfl d31_SignalTheatreLaw_law_669) (c_Mod_told l D m0 m_input m_tree m_other m_now m_spare m_circuit m_old mf hm_vars ((xs 1)) ((xs 2))) m31_60 m31_8 [0, 1] [2] [] [0] rfl rfl (by decide) (by decide) (by decide) rfl rfl hl.1 d31_SignalTheatreLaw_law_669 (Nat.le_of_ble_eq_true rfl) (Nat.le_of_ble_eq_true rfl) (Nat.le_of_ble_eq_true rfl) (Nat.le_of_ble_eq_true rfl) (fun v w ty H locs hp I => ?_) (fun E w ty H locs q ce hp I hce hcv hcl hX9 => ?_)
    rotate_left
    · obtain ⟨_, _, hv, -⟩ := hp; cases hv
    obtain ⟨fs1, z2, hv, rfl, rfl, hq⟩ := hp
    cases hv
    rw [ho] at hq
    rw [if_pos hc] at hq
    have ht3 : fs1[2]? = some (.int 1) := hq
    have I : q_I D q_cl _ s [(o0, .inl (cO, 1, .inr (.inl go))), (m0, .inr (13, fs1))] [(cO, .long)] H _ := I
    refine W.eq (g2 := F0 m 672 ls [.int z2]) rfl ?_
    refine lv_istore (lv' := [(6, .int z2), (5, .int 1), (4, .int 0), (3, .ref o0), (2, .ref m0), (1, .ref x0), (0, .ref b)]) hx hb d31_SignalTheatreLaw_law_672 hl (by decide) rfl (fun ls hl => ?_)
    refine lv_aload_n hx hb d31_SignalTheatreLaw_law_674 rfl (lv_at hl 4 rfl) ?_
    refine q_go (wr := [(o0, .inl (cO, 1, .inr (.inl go)))]) (tyr := [(cO, .long)]) C I (q_siteV (As := []) (rest := []) (q0 := 1) C I rfl rfl m31_9 m31_11 m31_12 m31_10 ⟨by decide, by decide⟩ (Eq.trans (b := some 0) (by decide +kernel) rfl) rfl d31_SignalTheatreLaw_law_675) (c_Mod_thrown l D m0 fs1 1 ht3) m31_10 m31_8 [1] [0] [] [0] rfl rfl (by decide) (by decide) (by decide) rfl rfl hl.1 d31_SignalTheatreLaw_law_675 (Nat.le_of_ble_eq_true rfl) (Nat.le_of_ble_eq_true rfl) (Nat.le_of_ble_eq_true rfl) (Nat.le_of_ble_eq_true rfl) (fun v w ty H locs hp I => ?_) (fun E w ty H locs q ce hp I hce hcv hcl hX9 => ?_)
    rotate_left
    · obtain ⟨hv, -⟩ := hp; cases hv
    obtain ⟨hv, rfl, rfl⟩ := hp
    cases hv
    have I : q_I D q_cl _ s [(o0, .inl (cO, 1, .inr (.inl go))), (m0, .inr (13, fs1))] [(cO, .long)] H _ := I
    refine W.eq (g2 := F0 m 678 ls [.int 1]) rfl ?_
    refine lv_iload hx hb d31_SignalTheatreLaw_law_678 (lv_at hl 1 rfl) ?_
    refine lv_icmp_eq (tgt := 685) hx hb d31_SignalTheatreLaw_law_680 (by decide) (fun _ => ?_) (fun h => absurd rfl h)
    refine lv_iload hx hb d31_SignalTheatreLaw_law_685 (lv_at hl 1 rfl) ?_
    refine lv_if_ne (tgt := 702) hx hb d31_SignalTheatreLaw_law_687 (by decide) (fun _ => ?_) (fun h => absurd h (by decide))
    refine lv_goto (tgt := 868) hx hb d31_SignalTheatreLaw_law_702 (by decide) ?_
    exact W.widen (k := 1300) (n := 5870000) (Nat.le_of_ble_eq_true rfl) (Nat.le_of_ble_eq_true rfl) (kk _ _ _ (q_pick I [] [] rfl (by decide) rfl) (lv_sub hl [2, 6] rfl))
  · skip
    have ho : o_told (xs 2) = Sum.inr "java/util/NoSuchElementException" := if_neg hc
    refine lv_aload_n hx hb d31_SignalTheatreLaw_law_637 rfl (lv_at hl 3 rfl) ?_
    refine lv_aload_n hx hb d31_SignalTheatreLaw_law_638 rfl (lv_at hl 4 rfl) ?_
    refine lv_iload hx hb d31_SignalTheatreLaw_law_639 (lv_at hl 0 rfl) ?_
    refine lv_iconst (v := 1) hx hb d31_SignalTheatreLaw_law_641 (by decide) ?_
    refine lv_iadd hx hb d31_SignalTheatreLaw_law_642 ?_
    refine W.eq (g2 := F0 m 643 ls [.int 1, .ref b, .ref x0]) rfl ?_
    refine va_sld hx hb hX hbl (Nat.not_le.mpr hbl) I.2.2.2 (i := 1) (by unfold vp_in; decide) d31_SignalTheatreLaw_law_643 ?_
    refine W.eq (g2 := F0 m 644 ls [.int (xs 1), .ref x0]) rfl ?_
    refine lv_aload_n hx hb d31_SignalTheatreLaw_law_644 rfl (lv_at hl 4 rfl) ?_
    refine lv_iload hx hb d31_SignalTheatreLaw_law_645 (lv_at hl 0 rfl) ?_
    refine lv_iconst (v := 2) hx hb d31_SignalTheatreLaw_law_647 (by decide) ?_
    refine lv_iadd hx hb d31_SignalTheatreLaw_law_648 ?_
    refine W.eq (g2 := F0 m 649 ls [.int 2, .ref b, .int (xs 1), .ref x0]) rfl ?_
    refine va_sld hx hb hX hbl (Nat.not_le.mpr hbl) I.2.2.2 (i := 2) (by unfold vp_in; decide) d31_SignalTheatreLaw_law_649 ?_
    refine W.eq (g2 := F0 m 650 ls [.int (xs 2), .int (xs 1), .ref x0]) rfl ?_
    refine lv_aload_n hx hb d31_SignalTheatreLaw_law_650 rfl (lv_at hl 1 rfl) ?_
    refine q_goW (wr := [(m0, .inr (13, [.ref m_input, .int 0, .int 0, .int 0, .int (-1), .ref m_tree, .ref m_other, .ref m_now, .ref m_spare, .ref m_circuit, .ref m_old])), (m_circuit, .inr (17, mf))]) (tyr := []) C I (q_siteSW (As := [.ref x0, .int (xs 1), .int (xs 2), .ref o0]) (rest := []) C m31_56 m31_58 m31_3 m31_57 ⟨by decide, by decide⟩ (Eq.trans (b := some 4) (by decide +kernel) rfl) rfl d31_SignalTheatreLaw_law_651) (h_told_ex2 l D hl9 x0 ((xs 1)) ((xs 2)) o0 s_input s_circuit s_spare s_faults s_builder s_stage cO go ho) m31_57 m31_3 [0, 1] [2, 3] [0] [] rfl rfl (by decide) (by decide) (by decide) rfl rfl hl.1 d31_SignalTheatreLaw_law_651 (Nat.le_of_ble_eq_true rfl) (Nat.le_of_ble_eq_true rfl) (Nat.le_of_ble_eq_true rfl) (Nat.le_of_ble_eq_true rfl) (fun v w ty H locs hp I => ?_) (fun E w ty H locs q ce hp I hce hcv hcl hX9 => ?_)
    rotate_left
    · obtain ⟨hv, -⟩ := hp; cases hv
    obtain ⟨hv, rfl, rfl⟩ := hp
    cases hv
    have I : q_I D q_cl _ s [(m0, .inr (13, [.ref m_input, .int 0, .int 0, .int 0, .int (-1), .ref m_tree, .ref m_other, .ref m_now, .ref m_spare, .ref m_circuit, .ref m_old])), (m_circuit, .inr (17, mf)), (o0, .inl (cO, 1, .inr (.inl go)))] [(cO, .long)] H _ := I
    refine W.eq (g2 := F0 m 654 ls [.int 2]) rfl ?_
    refine lv_istore (lv' := [(5, .int 2), (4, .int 0), (3, .ref o0), (2, .ref m0), (1, .ref x0), (0, .ref b)]) hx hb d31_SignalTheatreLaw_law_654 hl (by decide) rfl (fun ls hl => ?_)
    refine lv_aload_n hx hb d31_SignalTheatreLaw_law_656 rfl (lv_at hl 3 rfl) ?_
    refine lv_aload_n hx hb d31_SignalTheatreLaw_law_657 rfl (lv_at hl 5 rfl) ?_
    refine lv_iload hx hb d31_SignalTheatreLaw_law_658 (lv_at hl 1 rfl) ?_
    refine lv_iconst (v := 1) hx hb d31_SignalTheatreLaw_law_660 (by decide) ?_
    refine lv_iadd hx hb d31_SignalTheatreLaw_law_661 ?_
    refine W.eq (g2 := F0 m 662 ls [.int 1, .ref b, .ref m0]) rfl ?_
    refine va_sld hx hb hX hbl (Nat.not_le.mpr hbl) I.2.2.2 (i := 1) (by unfold vp_in; decide) d31_SignalTheatreLaw_law_662 ?_
    refine W.eq (g2 := F0 m 663 ls [.int (xs 1), .ref m0]) rfl ?_
    refine lv_aload_n hx hb d31_SignalTheatreLaw_law_663 rfl (lv_at hl 5 rfl) ?_
    refine lv_iload hx hb d31_SignalTheatreLaw_law_664 (lv_at hl 1 rfl) ?_
    refine lv_iconst (v := 2) hx hb d31_SignalTheatreLaw_law_666 (by decide) ?_
    refine lv_iadd hx hb d31_SignalTheatreLaw_law_667 ?_
    refine W.eq (g2 := F0 m 668 ls [.int 2, .ref b, .int (xs 1), .ref m0]) rfl ?_
    refine va_sld hx hb hX hbl (Nat.not_le.mpr hbl) I.2.2.2 (i := 2) (by unfold vp_in; decide) d31_SignalTheatreLaw_law_668 ?_
    refine W.eq (g2 := F0 m 669 ls [.int (xs 2), .int (xs 1), .ref m0]) rfl ?_
    refine q_go (wr := [(o0, .inl (cO, 1, .inr (.inl go)))]) (tyr := [(cO, .long)]) C I (q_siteV (As := [.int (xs 1), .int (xs 2)]) (rest := []) (q0 := 0) C I rfl rfl m31_59 m31_61 m31_62 m31_60 ⟨by decide, by decide⟩ (Eq.trans (b := some 2) (by decide +kernel) rfl) rfl d31_SignalTheatreLaw_law_669) (c_Mod_told l D m0 m_input m_tree m_other m_now m_spare m_circuit m_old mf hm_vars ((xs 1)) ((xs 2))) m31_60 m31_8 [0, 1] [2] [] [0] rfl rfl (by decide) (by decide) (by decide) rfl rfl hl.1 d31_SignalTheatreLaw_law_669 (Nat.le_of_ble_eq_true rfl) (Nat.le_of_ble_eq_true rfl) (Nat.le_of_ble_eq_true rfl) (Nat.le_of_ble_eq_true rfl) (fun v w ty H locs hp I => ?_) (fun E w ty H locs q ce hp I hce hcv hcl hX9 => ?_)
    rotate_left
    · obtain ⟨_, _, hv, -⟩ := hp; cases hv
    obtain ⟨fs4, z5, hv, rfl, rfl, hq⟩ := hp
    cases hv
    rw [ho] at hq
    rw [if_neg hc] at hq
    have ht6 : fs4[2]? = some (.int 2) := hq
    have I : q_I D q_cl _ s [(o0, .inl (cO, 1, .inr (.inl go))), (m0, .inr (13, fs4))] [(cO, .long)] H _ := I
    refine W.eq (g2 := F0 m 672 ls [.int z5]) rfl ?_
    refine lv_istore (lv' := [(6, .int z5), (5, .int 2), (4, .int 0), (3, .ref o0), (2, .ref m0), (1, .ref x0), (0, .ref b)]) hx hb d31_SignalTheatreLaw_law_672 hl (by decide) rfl (fun ls hl => ?_)
    refine lv_aload_n hx hb d31_SignalTheatreLaw_law_674 rfl (lv_at hl 4 rfl) ?_
    refine q_go (wr := [(o0, .inl (cO, 1, .inr (.inl go)))]) (tyr := [(cO, .long)]) C I (q_siteV (As := []) (rest := []) (q0 := 1) C I rfl rfl m31_9 m31_11 m31_12 m31_10 ⟨by decide, by decide⟩ (Eq.trans (b := some 0) (by decide +kernel) rfl) rfl d31_SignalTheatreLaw_law_675) (c_Mod_thrown l D m0 fs4 2 ht6) m31_10 m31_8 [1] [0] [] [0] rfl rfl (by decide) (by decide) (by decide) rfl rfl hl.1 d31_SignalTheatreLaw_law_675 (Nat.le_of_ble_eq_true rfl) (Nat.le_of_ble_eq_true rfl) (Nat.le_of_ble_eq_true rfl) (Nat.le_of_ble_eq_true rfl) (fun v w ty H locs hp I => ?_) (fun E w ty H locs q ce hp I hce hcv hcl hX9 => ?_)
    rotate_left
    · obtain ⟨hv, -⟩ := hp; cases hv
    obtain ⟨hv, rfl, rfl⟩ := hp
    cases hv
    have I : q_I D q_cl _ s [(o0, .inl (cO, 1, .inr (.inl go))), (m0, .inr (13, fs4))] [(cO, .long)] H _ := I
    refine W.eq (g2 := F0 m 678 ls [.int 2]) rfl ?_
    refine lv_iload hx hb d31_SignalTheatreLaw_law_678 (lv_at hl 1 rfl) ?_
    refine lv_icmp_eq (tgt := 685) hx hb d31_SignalTheatreLaw_law_680 (by decide) (fun _ => ?_) (fun h => absurd rfl h)
    refine lv_iload hx hb d31_SignalTheatreLaw_law_685 (lv_at hl 1 rfl) ?_
    refine lv_if_ne (tgt := 702) hx hb d31_SignalTheatreLaw_law_687 (by decide) (fun _ => ?_) (fun h => absurd h (by decide))
    refine lv_goto (tgt := 868) hx hb d31_SignalTheatreLaw_law_702 (by decide) ?_
    exact W.widen (k := 1300) (n := 5870000) (Nat.le_of_ble_eq_true rfl) (Nat.le_of_ble_eq_true rfl) (kk _ _ _ (q_pick I [] [] rfl (by decide) rfl) (lv_sub hl [2, 6] rfl))
set_option maxHeartbeats 4000000 in
set_option maxRecDepth 100000 in
/-- the law's case letter -/
theorem lc_letter {p : Program} {l : Launch} {e : Env} {s : State} {m : MethodId} {below : List Frame} {meth : Method} {c : Code} {Q : State → Prop} {D : va_G} {H : Heap} {locs : List Loc} {ls : Array Slot} {b : Nat} {xs : Nat → Int32} {x0 : Nat} {s_input : Nat} {s_circuit : Nat} {s_spare : Nat} {s_faults : Nat} {s_builder : Nat} {s_stage : Nat} {o0 : Nat} {cO : ClassId} {go : Nat → Int64} {m0 : Nat} {m_input : Nat} {m_tree : Nat} {m_other : Nat} {m_now : Nat} {m_spare : Nat} {m_circuit : Nat} {m_old : Nat} {mf : List Value} (hl9 : l.stackTraces = false) (C : q_C p s m meth c #[Value.ref b] code 8 "SignalTheatreLaw" (lw_A s)) (hX : va_X b 7 xs s s.heap) (hbl : b < s.heap.size) (hm_vars : mf[24]? = some (.int 0))
    (I : q_I D q_cl (lw_A s) s [(x0, .inr (0, [.ref s_input, .int 0, .int 0, .ref s_circuit, .ref s_spare, .ref s_faults, .ref s_builder, .ref s_stage])), (o0, .inl (cO, 1, .inr (.inl go))), (m0, .inr (13, [.ref m_input, .int 0, .int 0, .int 0, .int (-1), .ref m_tree, .ref m_other, .ref m_now, .ref m_spare, .ref m_circuit, .ref m_old])), (m_circuit, .inr (17, mf))] [(cO, .long)] H locs) (hl : lv_has ls 8 [(4, .int 0), (3, .ref o0), (2, .ref m0), (1, .ref x0), (0, .ref b)])
    (kk : ∀ (H : Heap) (locs : List Loc) (ls : Array Slot), q_I D q_cl (lw_A s) s [] [] H locs → lv_has ls 8 [(4, .int 0), (0, .ref b)] → W p l e room_1 s m #[Value.ref b] below meth c H locs 1300 5870000 Q (F0 m 868 ls [])) :
    W p l e room_1 s m #[Value.ref b] below meth c H locs 1170 5867776 Q (F0 m 705 ls []) := by
  have hx := C.1
  have hb := C.2.1
  refine lv_aload_n hx hb d31_SignalTheatreLaw_law_705 rfl (lv_at hl 3 rfl) ?_
  refine lv_aload_n hx hb d31_SignalTheatreLaw_law_706 rfl (lv_at hl 4 rfl) ?_
  refine lv_iload hx hb d31_SignalTheatreLaw_law_707 (lv_at hl 0 rfl) ?_
  refine lv_iconst (v := 1) hx hb d31_SignalTheatreLaw_law_709 (by decide) ?_
  refine lv_iadd hx hb d31_SignalTheatreLaw_law_710 ?_
  refine W.eq (g2 := F0 m 711 ls [.int 1, .ref b, .ref x0]) rfl ?_
  refine va_sld hx hb hX hbl (Nat.not_le.mpr hbl) I.2.2.2 (i := 1) (by unfold vp_in; decide) d31_SignalTheatreLaw_law_711 ?_
  refine W.eq (g2 := F0 m 712 ls [.int (xs 1), .ref x0]) rfl ?_
  refine lv_aload_n hx hb d31_SignalTheatreLaw_law_712 rfl (lv_at hl 4 rfl) ?_
  refine lv_iload hx hb d31_SignalTheatreLaw_law_713 (lv_at hl 0 rfl) ?_
  refine lv_iconst (v := 2) hx hb d31_SignalTheatreLaw_law_715 (by decide) ?_
  refine lv_iadd hx hb d31_SignalTheatreLaw_law_716 ?_
  refine W.eq (g2 := F0 m 717 ls [.int 2, .ref b, .int (xs 1), .ref x0]) rfl ?_
  refine va_sld hx hb hX hbl (Nat.not_le.mpr hbl) I.2.2.2 (i := 2) (by unfold vp_in; decide) d31_SignalTheatreLaw_law_717 ?_
  refine W.eq (g2 := F0 m 718 ls [.int (xs 2), .int (xs 1), .ref x0]) rfl ?_
  refine lv_aload_n hx hb d31_SignalTheatreLaw_law_718 rfl (lv_at hl 1 rfl) ?_
  refine q_goW (wr := [(m0, .inr (13, [.ref m_input, .int 0, .int 0, .int 0, .int (-1), .ref m_tree, .ref m_other, .ref m_now, .ref m_spare, .ref m_circuit, .ref m_old])), (m_circuit, .inr (17, mf))]) (tyr := []) C I (q_siteSW (As := [.ref x0, .int (xs 1), .int (xs 2), .ref o0]) (rest := []) C m31_63 m31_65 m31_3 m31_64 ⟨by decide, by decide⟩ (Eq.trans (b := some 4) (by decide +kernel) rfl) rfl d31_SignalTheatreLaw_law_719) (h_letter_ex1 l D hl9 x0 ((xs 1)) ((xs 2)) o0 s_input s_circuit s_spare s_faults s_builder s_stage cO go) m31_64 m31_3 [0, 1] [2, 3] [0] [] rfl rfl (by decide) (by decide) (by decide) rfl rfl hl.1 d31_SignalTheatreLaw_law_719 (Nat.le_of_ble_eq_true rfl) (Nat.le_of_ble_eq_true rfl) (Nat.le_of_ble_eq_true rfl) (Nat.le_of_ble_eq_true rfl) (fun v w ty H locs hp I => ?_) (fun E w ty H locs q ce hp I hce hcv hcl hX9 => ?_)
  rotate_left
  · obtain ⟨hv, -⟩ := hp; cases hv
  obtain ⟨hv, rfl, rfl⟩ := hp
  cases hv
  have I : q_I D q_cl _ s [(m0, .inr (13, [.ref m_input, .int 0, .int 0, .int 0, .int (-1), .ref m_tree, .ref m_other, .ref m_now, .ref m_spare, .ref m_circuit, .ref m_old])), (m_circuit, .inr (17, mf)), (o0, .inl (cO, 1, .inr (.inl go)))] [(cO, .long)] H _ := I
  refine W.eq (g2 := F0 m 722 ls [.int 1]) rfl ?_
  refine lv_istore (lv' := [(5, .int 1), (4, .int 0), (3, .ref o0), (2, .ref m0), (1, .ref x0), (0, .ref b)]) hx hb d31_SignalTheatreLaw_law_722 hl (by decide) rfl (fun ls hl => ?_)
  refine lv_aload_n hx hb d31_SignalTheatreLaw_law_724 rfl (lv_at hl 3 rfl) ?_
  refine lv_aload_n hx hb d31_SignalTheatreLaw_law_725 rfl (lv_at hl 5 rfl) ?_
  refine lv_iload hx hb d31_SignalTheatreLaw_law_726 (lv_at hl 1 rfl) ?_
  refine lv_iconst (v := 1) hx hb d31_SignalTheatreLaw_law_728 (by decide) ?_
  refine lv_iadd hx hb d31_SignalTheatreLaw_law_729 ?_
  refine W.eq (g2 := F0 m 730 ls [.int 1, .ref b, .ref m0]) rfl ?_
  refine va_sld hx hb hX hbl (Nat.not_le.mpr hbl) I.2.2.2 (i := 1) (by unfold vp_in; decide) d31_SignalTheatreLaw_law_730 ?_
  refine W.eq (g2 := F0 m 731 ls [.int (xs 1), .ref m0]) rfl ?_
  refine lv_aload_n hx hb d31_SignalTheatreLaw_law_731 rfl (lv_at hl 5 rfl) ?_
  refine lv_iload hx hb d31_SignalTheatreLaw_law_732 (lv_at hl 1 rfl) ?_
  refine lv_iconst (v := 2) hx hb d31_SignalTheatreLaw_law_734 (by decide) ?_
  refine lv_iadd hx hb d31_SignalTheatreLaw_law_735 ?_
  refine W.eq (g2 := F0 m 736 ls [.int 2, .ref b, .int (xs 1), .ref m0]) rfl ?_
  refine va_sld hx hb hX hbl (Nat.not_le.mpr hbl) I.2.2.2 (i := 2) (by unfold vp_in; decide) d31_SignalTheatreLaw_law_736 ?_
  refine W.eq (g2 := F0 m 737 ls [.int (xs 2), .int (xs 1), .ref m0]) rfl ?_
  refine q_go (wr := [(o0, .inl (cO, 1, .inr (.inl go)))]) (tyr := [(cO, .long)]) C I (q_siteV (As := [.int (xs 1), .int (xs 2)]) (rest := []) (q0 := 0) C I rfl rfl m31_66 m31_68 m31_69 m31_67 ⟨by decide, by decide⟩ (Eq.trans (b := some 2) (by decide +kernel) rfl) rfl d31_SignalTheatreLaw_law_737) (c_Mod_letter l D m0 m_input m_tree m_other m_now m_spare m_circuit m_old mf hm_vars ((xs 1)) ((xs 2))) m31_67 m31_8 [0, 1] [2] [] [0] rfl rfl (by decide) (by decide) (by decide) rfl rfl hl.1 d31_SignalTheatreLaw_law_737 (Nat.le_of_ble_eq_true rfl) (Nat.le_of_ble_eq_true rfl) (Nat.le_of_ble_eq_true rfl) (Nat.le_of_ble_eq_true rfl) (fun v w ty H locs hp I => ?_) (fun E w ty H locs q ce hp I hce hcv hcl hX9 => ?_)
  rotate_left
  · obtain ⟨_, _, hv, -⟩ := hp; cases hv
  obtain ⟨fs1, z2, hv, rfl, rfl, hq⟩ := hp
  cases hv
  have ht3 : fs1[2]? = some (.int 1) := hq
  have I : q_I D q_cl _ s [(o0, .inl (cO, 1, .inr (.inl go))), (m0, .inr (13, fs1))] [(cO, .long)] H _ := I
  refine W.eq (g2 := F0 m 740 ls [.int z2]) rfl ?_
  refine lv_istore (lv' := [(6, .int z2), (5, .int 1), (4, .int 0), (3, .ref o0), (2, .ref m0), (1, .ref x0), (0, .ref b)]) hx hb d31_SignalTheatreLaw_law_740 hl (by decide) rfl (fun ls hl => ?_)
  refine lv_aload_n hx hb d31_SignalTheatreLaw_law_742 rfl (lv_at hl 4 rfl) ?_
  refine q_go (wr := [(o0, .inl (cO, 1, .inr (.inl go)))]) (tyr := [(cO, .long)]) C I (q_siteV (As := []) (rest := []) (q0 := 1) C I rfl rfl m31_9 m31_11 m31_12 m31_10 ⟨by decide, by decide⟩ (Eq.trans (b := some 0) (by decide +kernel) rfl) rfl d31_SignalTheatreLaw_law_743) (c_Mod_thrown l D m0 fs1 1 ht3) m31_10 m31_8 [1] [0] [] [0] rfl rfl (by decide) (by decide) (by decide) rfl rfl hl.1 d31_SignalTheatreLaw_law_743 (Nat.le_of_ble_eq_true rfl) (Nat.le_of_ble_eq_true rfl) (Nat.le_of_ble_eq_true rfl) (Nat.le_of_ble_eq_true rfl) (fun v w ty H locs hp I => ?_) (fun E w ty H locs q ce hp I hce hcv hcl hX9 => ?_)
  rotate_left
  · obtain ⟨hv, -⟩ := hp; cases hv
  obtain ⟨hv, rfl, rfl⟩ := hp
  cases hv
  have I : q_I D q_cl _ s [(o0, .inl (cO, 1, .inr (.inl go))), (m0, .inr (13, fs1))] [(cO, .long)] H _ := I
  refine W.eq (g2 := F0 m 746 ls [.int 1]) rfl ?_
  refine lv_iload hx hb d31_SignalTheatreLaw_law_746 (lv_at hl 1 rfl) ?_
  refine lv_icmp_eq (tgt := 753) hx hb d31_SignalTheatreLaw_law_748 (by decide) (fun _ => ?_) (fun h => absurd rfl h)
  refine lv_iload hx hb d31_SignalTheatreLaw_law_753 (lv_at hl 1 rfl) ?_
  refine lv_if_ne (tgt := 770) hx hb d31_SignalTheatreLaw_law_755 (by decide) (fun _ => ?_) (fun h => absurd h (by decide))
  refine lv_goto (tgt := 868) hx hb d31_SignalTheatreLaw_law_770 (by decide) ?_
  exact W.widen (k := 1300) (n := 5870000) (Nat.le_of_ble_eq_true rfl) (Nat.le_of_ble_eq_true rfl) (kk _ _ _ (q_pick I [] [] rfl (by decide) rfl) (lv_sub hl [2, 6] rfl))
set_option maxHeartbeats 4000000 in
set_option maxRecDepth 100000 in
/-- the law's case log -/
theorem lc_log {p : Program} {l : Launch} {e : Env} {s : State} {m : MethodId} {below : List Frame} {meth : Method} {c : Code} {Q : State → Prop} {D : va_G} {H : Heap} {locs : List Loc} {ls : Array Slot} {b : Nat} {xs : Nat → Int32} {x0 : Nat} {s_input : Nat} {s_circuit : Nat} {s_spare : Nat} {s_faults : Nat} {s_builder : Nat} {s_stage : Nat} {o0 : Nat} {cO : ClassId} {go : Nat → Int64} {m0 : Nat} {m_input : Nat} {m_tree : Nat} {m_other : Nat} {m_now : Nat} {m_spare : Nat} {m_circuit : Nat} {m_old : Nat} {mf : List Value} (hl9 : l.stackTraces = false) (C : q_C p s m meth c #[Value.ref b] code 8 "SignalTheatreLaw" (lw_A s)) (hX : va_X b 7 xs s s.heap) (hbl : b < s.heap.size) (hm_logged : mf[74]? = some (.int 0))
    (I : q_I D q_cl (lw_A s) s [(x0, .inr (0, [.ref s_input, .int 0, .int 0, .ref s_circuit, .ref s_spare, .ref s_faults, .ref s_builder, .ref s_stage])), (o0, .inl (cO, 1, .inr (.inl go))), (m0, .inr (13, [.ref m_input, .int 0, .int 0, .int 0, .int (-1), .ref m_tree, .ref m_other, .ref m_now, .ref m_spare, .ref m_circuit, .ref m_old])), (m_circuit, .inr (17, mf))] [(cO, .long)] H locs) (hl : lv_has ls 8 [(4, .int 0), (3, .ref o0), (2, .ref m0), (1, .ref x0), (0, .ref b)])
    (kk : ∀ (H : Heap) (locs : List Loc) (ls : Array Slot), q_I D q_cl (lw_A s) s [] [] H locs → lv_has ls 8 [(4, .int 0), (0, .ref b)] → W p l e room_1 s m #[Value.ref b] below meth c H locs 1300 5870000 Q (F0 m 868 ls [])) :
    W p l e room_1 s m #[Value.ref b] below meth c H locs 1170 5867776 Q (F0 m 773 ls []) := by
  have hx := C.1
  have hb := C.2.1
  refine lv_aload_n hx hb d31_SignalTheatreLaw_law_773 rfl (lv_at hl 3 rfl) ?_
  refine lv_aload_n hx hb d31_SignalTheatreLaw_law_774 rfl (lv_at hl 4 rfl) ?_
  refine lv_iload hx hb d31_SignalTheatreLaw_law_775 (lv_at hl 0 rfl) ?_
  refine lv_iconst (v := 1) hx hb d31_SignalTheatreLaw_law_777 (by decide) ?_
  refine lv_iadd hx hb d31_SignalTheatreLaw_law_778 ?_
  refine W.eq (g2 := F0 m 779 ls [.int 1, .ref b, .ref x0]) rfl ?_
  refine va_sld hx hb hX hbl (Nat.not_le.mpr hbl) I.2.2.2 (i := 1) (by unfold vp_in; decide) d31_SignalTheatreLaw_law_779 ?_
  refine W.eq (g2 := F0 m 780 ls [.int (xs 1), .ref x0]) rfl ?_
  refine lv_aload_n hx hb d31_SignalTheatreLaw_law_780 rfl (lv_at hl 1 rfl) ?_
  refine q_goW (wr := [(m0, .inr (13, [.ref m_input, .int 0, .int 0, .int 0, .int (-1), .ref m_tree, .ref m_other, .ref m_now, .ref m_spare, .ref m_circuit, .ref m_old])), (m_circuit, .inr (17, mf))]) (tyr := []) C I (q_siteSW (As := [.ref x0, .int (xs 1), .ref o0]) (rest := []) C m31_70 m31_72 m31_3 m31_71 ⟨by decide, by decide⟩ (Eq.trans (b := some 3) (by decide +kernel) rfl) rfl d31_SignalTheatreLaw_law_781) (h_log_ex1 l D hl9 x0 ((xs 1)) o0 s_input s_circuit s_spare s_faults s_builder s_stage cO go) m31_71 m31_3 [0, 1] [2, 3] [0] [] rfl rfl (by decide) (by decide) (by decide) rfl rfl hl.1 d31_SignalTheatreLaw_law_781 (Nat.le_of_ble_eq_true rfl) (Nat.le_of_ble_eq_true rfl) (Nat.le_of_ble_eq_true rfl) (Nat.le_of_ble_eq_true rfl) (fun v w ty H locs hp I => ?_) (fun E w ty H locs q ce hp I hce hcv hcl hX9 => ?_)
  rotate_left
  · obtain ⟨hv, -⟩ := hp; cases hv
  obtain ⟨hv, rfl, rfl⟩ := hp
  cases hv
  have I : q_I D q_cl _ s [(m0, .inr (13, [.ref m_input, .int 0, .int 0, .int 0, .int (-1), .ref m_tree, .ref m_other, .ref m_now, .ref m_spare, .ref m_circuit, .ref m_old])), (m_circuit, .inr (17, mf)), (o0, .inl (cO, 1, .inr (.inl go)))] [(cO, .long)] H _ := I
  refine W.eq (g2 := F0 m 784 ls [.int 1]) rfl ?_
  refine lv_istore (lv' := [(5, .int 1), (4, .int 0), (3, .ref o0), (2, .ref m0), (1, .ref x0), (0, .ref b)]) hx hb d31_SignalTheatreLaw_law_784 hl (by decide) rfl (fun ls hl => ?_)
  refine lv_aload_n hx hb d31_SignalTheatreLaw_law_786 rfl (lv_at hl 3 rfl) ?_
  refine lv_aload_n hx hb d31_SignalTheatreLaw_law_787 rfl (lv_at hl 5 rfl) ?_
  refine lv_iload hx hb d31_SignalTheatreLaw_law_788 (lv_at hl 1 rfl) ?_
  refine lv_iconst (v := 1) hx hb d31_SignalTheatreLaw_law_790 (by decide) ?_
  refine lv_iadd hx hb d31_SignalTheatreLaw_law_791 ?_
  refine W.eq (g2 := F0 m 792 ls [.int 1, .ref b, .ref m0]) rfl ?_
  refine va_sld hx hb hX hbl (Nat.not_le.mpr hbl) I.2.2.2 (i := 1) (by unfold vp_in; decide) d31_SignalTheatreLaw_law_792 ?_
  refine W.eq (g2 := F0 m 793 ls [.int (xs 1), .ref m0]) rfl ?_
  refine q_go (wr := [(o0, .inl (cO, 1, .inr (.inl go)))]) (tyr := [(cO, .long)]) C I (q_siteV (As := [.int (xs 1)]) (rest := []) (q0 := 0) C I rfl rfl m31_73 m31_75 m31_76 m31_74 ⟨by decide, by decide⟩ (Eq.trans (b := some 1) (by decide +kernel) rfl) rfl d31_SignalTheatreLaw_law_793) (c_Mod_log l D m0 m_input m_tree m_other m_now m_spare m_circuit m_old mf hm_logged ((xs 1))) m31_74 m31_8 [0, 1] [2] [] [0] rfl rfl (by decide) (by decide) (by decide) rfl rfl hl.1 d31_SignalTheatreLaw_law_793 (Nat.le_of_ble_eq_true rfl) (Nat.le_of_ble_eq_true rfl) (Nat.le_of_ble_eq_true rfl) (Nat.le_of_ble_eq_true rfl) (fun v w ty H locs hp I => ?_) (fun E w ty H locs q ce hp I hce hcv hcl hX9 => ?_)
  rotate_left
  · obtain ⟨_, _, hv, -⟩ := hp; cases hv
  obtain ⟨fs1, z2, hv, rfl, rfl, hq⟩ := hp
  cases hv
  have ht3 : fs1[2]? = some (.int 1) := hq
  have I : q_I D q_cl _ s [(o0, .inl (cO, 1, .inr (.inl go))), (m0, .inr (13, fs1))] [(cO, .long)] H _ := I
  refine W.eq (g2 := F0 m 796 ls [.int z2]) rfl ?_
  refine lv_istore (lv' := [(6, .int z2), (5, .int 1), (4, .int 0), (3, .ref o0), (2, .ref m0), (1, .ref x0), (0, .ref b)]) hx hb d31_SignalTheatreLaw_law_796 hl (by decide) rfl (fun ls hl => ?_)
  refine lv_aload_n hx hb d31_SignalTheatreLaw_law_798 rfl (lv_at hl 4 rfl) ?_
  refine q_go (wr := [(o0, .inl (cO, 1, .inr (.inl go)))]) (tyr := [(cO, .long)]) C I (q_siteV (As := []) (rest := []) (q0 := 1) C I rfl rfl m31_9 m31_11 m31_12 m31_10 ⟨by decide, by decide⟩ (Eq.trans (b := some 0) (by decide +kernel) rfl) rfl d31_SignalTheatreLaw_law_799) (c_Mod_thrown l D m0 fs1 1 ht3) m31_10 m31_8 [1] [0] [] [0] rfl rfl (by decide) (by decide) (by decide) rfl rfl hl.1 d31_SignalTheatreLaw_law_799 (Nat.le_of_ble_eq_true rfl) (Nat.le_of_ble_eq_true rfl) (Nat.le_of_ble_eq_true rfl) (Nat.le_of_ble_eq_true rfl) (fun v w ty H locs hp I => ?_) (fun E w ty H locs q ce hp I hce hcv hcl hX9 => ?_)
  rotate_left
  · obtain ⟨hv, -⟩ := hp; cases hv
  obtain ⟨hv, rfl, rfl⟩ := hp
  cases hv
  have I : q_I D q_cl _ s [(o0, .inl (cO, 1, .inr (.inl go))), (m0, .inr (13, fs1))] [(cO, .long)] H _ := I
  refine W.eq (g2 := F0 m 802 ls [.int 1]) rfl ?_
  refine lv_iload hx hb d31_SignalTheatreLaw_law_802 (lv_at hl 1 rfl) ?_
  refine lv_icmp_eq (tgt := 809) hx hb d31_SignalTheatreLaw_law_804 (by decide) (fun _ => ?_) (fun h => absurd rfl h)
  refine lv_iload hx hb d31_SignalTheatreLaw_law_809 (lv_at hl 1 rfl) ?_
  refine lv_if_ne (tgt := 826) hx hb d31_SignalTheatreLaw_law_811 (by decide) (fun _ => ?_) (fun h => absurd h (by decide))
  refine lv_goto (tgt := 868) hx hb d31_SignalTheatreLaw_law_826 (by decide) ?_
  exact W.widen (k := 1300) (n := 5870000) (Nat.le_of_ble_eq_true rfl) (Nat.le_of_ble_eq_true rfl) (kk _ _ _ (q_pick I [] [] rfl (by decide) rfl) (lv_sub hl [2, 6] rfl))
set_option maxHeartbeats 4000000 in
set_option maxRecDepth 100000 in
/-- the law's case time -/
theorem lc_time {p : Program} {l : Launch} {e : Env} {s : State} {m : MethodId} {below : List Frame} {meth : Method} {c : Code} {Q : State → Prop} {D : va_G} {H : Heap} {locs : List Loc} {ls : Array Slot} {b : Nat} {xs : Nat → Int32} {x0 : Nat} {s_input : Nat} {s_circuit : Nat} {s_spare : Nat} {s_faults : Nat} {s_builder : Nat} {s_stage : Nat} {m0 : Nat} {m_input : Nat} {m_tree : Nat} {m_other : Nat} {m_now : Nat} {m_spare : Nat} {m_circuit : Nat} {m_old : Nat} {mf : List Value} {o0 : Nat} (hl9 : l.stackTraces = false) (C : q_C p s m meth c #[Value.ref b] code 8 "SignalTheatreLaw" (lw_A s)) (hX : va_X b 7 xs s s.heap) (hbl : b < s.heap.size) (hm_time : mf[51]? = some (.long 0))
    (I : q_I D q_cl (lw_A s) s [(x0, .inr (0, [.ref s_input, .int 0, .int 0, .ref s_circuit, .ref s_spare, .ref s_faults, .ref s_builder, .ref s_stage])), (m0, .inr (13, [.ref m_input, .int 0, .int 0, .int 0, .int (-1), .ref m_tree, .ref m_other, .ref m_now, .ref m_spare, .ref m_circuit, .ref m_old])), (m_circuit, .inr (17, mf))] [] H locs) (hl : lv_has ls 8 [(4, .int 0), (3, .ref o0), (2, .ref m0), (1, .ref x0), (0, .ref b)])
    (kk : ∀ (H : Heap) (locs : List Loc) (ls : Array Slot), q_I D q_cl (lw_A s) s [] [] H locs → lv_has ls 8 [(4, .int 0), (0, .ref b)] → W p l e room_1 s m #[Value.ref b] below meth c H locs 1300 5870000 Q (F0 m 868 ls [])) :
    W p l e room_1 s m #[Value.ref b] below meth c H locs 1170 5867776 Q (F0 m 829 ls []) := by
  have hx := C.1
  have hb := C.2.1
  refine lv_aload_n hx hb d31_SignalTheatreLaw_law_829 rfl (lv_at hl 3 rfl) ?_
  refine q_go (wr := [(m0, .inr (13, [.ref m_input, .int 0, .int 0, .int 0, .int (-1), .ref m_tree, .ref m_other, .ref m_now, .ref m_spare, .ref m_circuit, .ref m_old])), (m_circuit, .inr (17, mf))]) (tyr := []) C I (q_siteV (As := []) (rest := []) (q0 := 0) C I rfl rfl m31_77 m31_79 m31_80 m31_78 ⟨by decide, by decide⟩ (Eq.trans (b := some 0) (by decide +kernel) rfl) rfl d31_SignalTheatreLaw_law_830) (c_S_time l D x0 s_input s_circuit s_spare s_faults s_builder s_stage) m31_78 m31_81 [0] [1, 2] [] [] rfl rfl (by decide) (by decide) (by decide) rfl rfl hl.1 d31_SignalTheatreLaw_law_830 (Nat.le_of_ble_eq_true rfl) (Nat.le_of_ble_eq_true rfl) (Nat.le_of_ble_eq_true rfl) (Nat.le_of_ble_eq_true rfl) (fun v w ty H locs hp I => ?_) (fun E w ty H locs q ce hp I hce hcv hcl hX9 => ?_)
  rotate_left
  · obtain ⟨-, -, hv⟩ := hp; cases hv
  obtain ⟨rfl, rfl, hv⟩ := hp
  cases hv
  have I : q_I D q_cl _ s [(m0, .inr (13, [.ref m_input, .int 0, .int 0, .int 0, .int (-1), .ref m_tree, .ref m_other, .ref m_now, .ref m_spare, .ref m_circuit, .ref m_old])), (m_circuit, .inr (17, mf))] [] H _ := I
  refine W.eq (g2 := F0 m 833 ls [.long 0]) rfl ?_
  refine lv_aload_n hx hb d31_SignalTheatreLaw_law_833 rfl (lv_at hl 2 rfl) ?_
  refine q_go (wr := []) (tyr := []) C I (q_siteV (As := []) (rest := [.long 0]) (q0 := 0) C I rfl rfl m31_82 m31_84 m31_85 m31_83 ⟨by decide, by decide⟩ (Eq.trans (b := some 0) (by decide +kernel) rfl) rfl d31_SignalTheatreLaw_law_834) (c_Mod_time l D m0 m_input m_tree m_other m_now m_spare m_circuit m_old mf hm_time) m31_83 m31_8 [0, 1] [] [] [] rfl rfl (by decide) (by decide) (by decide) rfl rfl hl.1 d31_SignalTheatreLaw_law_834 (Nat.le_of_ble_eq_true rfl) (Nat.le_of_ble_eq_true rfl) (Nat.le_of_ble_eq_true rfl) (Nat.le_of_ble_eq_true rfl) (fun v w ty H locs hp I => ?_) (fun E w ty H locs q ce hp I hce hcv hcl hX9 => ?_)
  rotate_left
  · obtain ⟨_, _, hv, -⟩ := hp; cases hv
  obtain ⟨fs1, z2, hv, rfl, rfl, hq⟩ := hp
  cases hv
  have ht3 : fs1[2]? = some (.int 0) := hq.1
  have hz : z2 = 0 := Value.long.inj (Option.some.inj hq.2)
  have I : q_I D q_cl _ s [(m0, .inr (13, fs1))] [] H _ := I
  refine W.eq (g2 := F0 m 837 ls [.long z2, .long 0]) rfl ?_
  rw [hz]
  refine W.lcmp hx hb d31_SignalTheatreLaw_law_837 ?_
  refine W.eq (g2 := F0 m 838 ls [.int 0]) (congrArg (fun z => F0 m 838 ls (.int z :: [])) (by simp [lg_cmp])) ?_
  refine lv_if_eq (tgt := 868) hx hb d31_SignalTheatreLaw_law_838 (by decide) (fun _ => ?_) (fun h => absurd h (by decide))
  exact W.widen (k := 1300) (n := 5870000) (Nat.le_of_ble_eq_true rfl) (Nat.le_of_ble_eq_true rfl) (kk _ _ _ (q_pick I [] [] rfl (by decide) rfl) (lv_sub hl [0, 4] rfl))
set_option maxHeartbeats 4000000 in
set_option maxRecDepth 100000 in
/-- the law's case count -/
theorem lc_count {p : Program} {l : Launch} {e : Env} {s : State} {m : MethodId} {below : List Frame} {meth : Method} {c : Code} {Q : State → Prop} {D : va_G} {H : Heap} {locs : List Loc} {ls : Array Slot} {b : Nat} {xs : Nat → Int32} {x0 : Nat} {s_input : Nat} {s_circuit : Nat} {s_spare : Nat} {s_faults : Nat} {s_builder : Nat} {s_stage : Nat} {m0 : Nat} {m_input : Nat} {m_tree : Nat} {m_other : Nat} {m_now : Nat} {m_spare : Nat} {m_circuit : Nat} {m_old : Nat} {mf : List Value} {r_active : Nat} {r_inactive : Nat} {r_later : Nat} {r_future : Nat} {rf_active : List Value} {rf_inactive : List Value} {rf_later : List Value} {rf_future : List Value} {o0 : Nat} (hl9 : l.stackTraces = false) (C : q_C p s m meth c #[Value.ref b] code 8 "SignalTheatreLaw" (lw_A s)) (hX : va_X b 7 xs s s.heap) (hbl : b < s.heap.size) (hm_vars : mf[24]? = some (.int 0)) (hm_drives : mf[36]? = some (.int 0)) (hm_processes : mf[37]? = some (.int 0)) (hm_logged : mf[74]? = some (.int 0)) (hm_cost : mf[71]? = some (.int 0)) (hm_active : mf[56]? = some (.ref r_active)) (hm_inactive : mf[57]? = some (.ref r_inactive)) (hm_later : mf[58]? = some (.ref r_later)) (hm_future : mf[59]? = some (.ref r_future)) (hr_active : rf_active[8]? = some (.int 0)) (hr_inactive : rf_inactive[8]? = some (.int 0)) (hr_later : rf_later[8]? = some (.int 0)) (hr_future : rf_future[8]? = some (.int 0))
    (I : q_I D q_cl (lw_A s) s [(x0, .inr (0, [.ref s_input, .int 0, .int 0, .ref s_circuit, .ref s_spare, .ref s_faults, .ref s_builder, .ref s_stage])), (m0, .inr (13, [.ref m_input, .int 0, .int 0, .int 0, .int (-1), .ref m_tree, .ref m_other, .ref m_now, .ref m_spare, .ref m_circuit, .ref m_old])), (m_circuit, .inr (17, mf)), (r_active, .inr (18, rf_active)), (r_inactive, .inr (18, rf_inactive)), (r_later, .inr (18, rf_later)), (r_future, .inr (18, rf_future))] [] H locs) (hl : lv_has ls 8 [(4, .int 0), (3, .ref o0), (2, .ref m0), (1, .ref x0), (0, .ref b)])
    (kk : ∀ (H : Heap) (locs : List Loc) (ls : Array Slot), q_I D q_cl (lw_A s) s [] [] H locs → lv_has ls 8 [(4, .int 0), (0, .ref b)] → W p l e room_1 s m #[Value.ref b] below meth c H locs 1300 5870000 Q (F0 m 868 ls [])) :
    W p l e room_1 s m #[Value.ref b] below meth c H locs 1170 5867776 Q (F0 m 843 ls []) := by
  have hx := C.1
  have hb := C.2.1
  refine lv_aload_n hx hb d31_SignalTheatreLaw_law_843 rfl (lv_at hl 3 rfl) ?_
  refine lv_aload_n hx hb d31_SignalTheatreLaw_law_844 rfl (lv_at hl 4 rfl) ?_
  refine lv_iload hx hb d31_SignalTheatreLaw_law_845 (lv_at hl 0 rfl) ?_
  refine lv_iconst (v := 1) hx hb d31_SignalTheatreLaw_law_847 (by decide) ?_
  refine lv_iadd hx hb d31_SignalTheatreLaw_law_848 ?_
  refine W.eq (g2 := F0 m 849 ls [.int 1, .ref b, .ref x0]) rfl ?_
  refine va_sld hx hb hX hbl (Nat.not_le.mpr hbl) I.2.2.2 (i := 1) (by unfold vp_in; decide) d31_SignalTheatreLaw_law_849 ?_
  refine W.eq (g2 := F0 m 850 ls [.int (xs 1), .ref x0]) rfl ?_
  refine q_go (wr := [(m0, .inr (13, [.ref m_input, .int 0, .int 0, .int 0, .int (-1), .ref m_tree, .ref m_other, .ref m_now, .ref m_spare, .ref m_circuit, .ref m_old])), (m_circuit, .inr (17, mf)), (r_active, .inr (18, rf_active)), (r_inactive, .inr (18, rf_inactive)), (r_later, .inr (18, rf_later)), (r_future, .inr (18, rf_future))]) (tyr := []) C I (q_siteV (As := [.int (xs 1)]) (rest := []) (q0 := 0) C I rfl rfl m31_86 m31_88 m31_89 m31_87 ⟨by decide, by decide⟩ (Eq.trans (b := some 1) (by decide +kernel) rfl) rfl d31_SignalTheatreLaw_law_850) (c_S_count l D x0 s_input s_circuit s_spare s_faults s_builder s_stage ((xs 1))) m31_87 m31_81 [0] [1, 2, 3, 4, 5, 6] [] [] rfl rfl (by decide) (by decide) (by decide) rfl rfl hl.1 d31_SignalTheatreLaw_law_850 (Nat.le_of_ble_eq_true rfl) (Nat.le_of_ble_eq_true rfl) (Nat.le_of_ble_eq_true rfl) (Nat.le_of_ble_eq_true rfl) (fun v w ty H locs hp I => ?_) (fun E w ty H locs q ce hp I hce hcv hcl hX9 => ?_)
  rotate_left
  · obtain ⟨-, -, hv⟩ := hp; cases hv
  obtain ⟨rfl, rfl, hv⟩ := hp
  cases hv
  have I : q_I D q_cl _ s [(m0, .inr (13, [.ref m_input, .int 0, .int 0, .int 0, .int (-1), .ref m_tree, .ref m_other, .ref m_now, .ref m_spare, .ref m_circuit, .ref m_old])), (m_circuit, .inr (17, mf)), (r_active, .inr (18, rf_active)), (r_inactive, .inr (18, rf_inactive)), (r_later, .inr (18, rf_later)), (r_future, .inr (18, rf_future))] [] H _ := I
  refine W.eq (g2 := F0 m 853 ls [.int (o_count (xs 1))]) rfl ?_
  refine lv_aload_n hx hb d31_SignalTheatreLaw_law_853 rfl (lv_at hl 2 rfl) ?_
  refine lv_aload_n hx hb d31_SignalTheatreLaw_law_854 rfl (lv_at hl 4 rfl) ?_
  refine lv_iload hx hb d31_SignalTheatreLaw_law_855 (lv_at hl 0 rfl) ?_
  refine lv_iconst (v := 1) hx hb d31_SignalTheatreLaw_law_857 (by decide) ?_
  refine lv_iadd hx hb d31_SignalTheatreLaw_law_858 ?_
  refine W.eq (g2 := F0 m 859 ls [.int 1, .ref b, .ref m0, .int (o_count (xs 1))]) rfl ?_
  refine va_sld hx hb hX hbl (Nat.not_le.mpr hbl) I.2.2.2 (i := 1) (by unfold vp_in; decide) d31_SignalTheatreLaw_law_859 ?_
  refine W.eq (g2 := F0 m 860 ls [.int (xs 1), .ref m0, .int (o_count (xs 1))]) rfl ?_
  refine q_go (wr := []) (tyr := []) C I (q_siteV (As := [.int (xs 1)]) (rest := [.int (o_count (xs 1))]) (q0 := 0) C I rfl rfl m31_90 m31_92 m31_93 m31_91 ⟨by decide, by decide⟩ (Eq.trans (b := some 1) (by decide +kernel) rfl) rfl d31_SignalTheatreLaw_law_860) (c_Mod_count l D m0 m_input m_tree m_other m_now m_spare m_circuit m_old r_active r_inactive r_later r_future mf hm_vars hm_drives hm_processes hm_logged hm_cost hm_active hm_inactive hm_later hm_future rf_active rf_inactive rf_later rf_future hr_active hr_inactive hr_later hr_future ((xs 1))) m31_91 m31_8 [0, 1, 2, 3, 4, 5] [] [] [] rfl rfl (by decide) (by decide) (by decide) rfl rfl hl.1 d31_SignalTheatreLaw_law_860 (Nat.le_of_ble_eq_true rfl) (Nat.le_of_ble_eq_true rfl) (Nat.le_of_ble_eq_true rfl) (Nat.le_of_ble_eq_true rfl) (fun v w ty H locs hp I => ?_) (fun E w ty H locs q ce hp I hce hcv hcl hX9 => ?_)
  rotate_left
  · obtain ⟨_, _, hv, -⟩ := hp; cases hv
  obtain ⟨fs1, z2, hv, rfl, rfl, hq⟩ := hp
  cases hv
  have ht3 : fs1[2]? = some (.int 0) := hq.1
  have hz : z2 = (o_count (xs 1)) := Value.int.inj (Option.some.inj hq.2)
  have I : q_I D q_cl _ s [(m0, .inr (13, fs1))] [] H _ := I
  refine W.eq (g2 := F0 m 863 ls [.int z2, .int (o_count (xs 1))]) rfl ?_
  rw [hz]
  refine lv_icmp_eq (tgt := 868) hx hb d31_SignalTheatreLaw_law_863 (by decide) (fun _ => ?_) (fun h => absurd rfl h)
  exact W.widen (k := 1300) (n := 5870000) (Nat.le_of_ble_eq_true rfl) (Nat.le_of_ble_eq_true rfl) (kk _ _ _ (q_pick I [] [] rfl (by decide) rfl) (lv_sub hl [0, 4] rfl))
