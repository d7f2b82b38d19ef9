set_option maxRecDepth 20000 in
theorem m10_0 : (Cond.methodLink "SignalTheatre$Signal" 1 ⟨"java/lang/Object", "<init>", "()V"⟩ : Cond) ∈ q_big := q_m2 (List.mem_of_getElem? (i := 187) rfl) rfl
set_option maxRecDepth 20000 in
theorem m10_1 : (Cond.instanceMethod ⟨"java/lang/Object", "<init>", "()V"⟩ : Cond) ∈ q_big := q_m1 (List.mem_of_getElem? (i := 47) rfl) rfl
set_option maxRecDepth 20000 in
theorem m10_2 : (Cond.code ⟨"java/lang/Object", "<init>", "()V"⟩ object_method_1_code 1 none : Cond) ∈ q_big := q_m1 (List.mem_of_getElem? (i := 48) rfl) rfl
set_option maxRecDepth 20000 in
theorem m10_3 : (Cond.methodLink "SignalTheatre$Worth" 3 ⟨"java/lang/Object", "<init>", "()V"⟩ : Cond) ∈ q_big := q_m1 (List.mem_of_getElem? (i := 177) rfl) rfl
set_option maxRecDepth 20000 in
theorem m10_4 : (Cond.fieldLink "SignalTheatre$Worth" 11 "SignalTheatre$Worth" "ones" "[J" : Cond) ∈ q_big := q_m1 (List.mem_of_getElem? (i := 178) rfl) rfl
set_option maxRecDepth 20000 in
theorem m10_5 : (Cond.arrayClass FieldType.long : Cond) ∈ q_big := q_m1 (List.mem_of_getElem? (i := 137) rfl) rfl
set_option maxRecDepth 20000 in
theorem m10_6 : (Cond.fieldLink "SignalTheatre$Worth" 15 "SignalTheatre$Worth" "unknown" "[J" : Cond) ∈ q_big := q_m1 (List.mem_of_getElem? (i := 179) rfl) rfl
set_option maxRecDepth 20000 in
theorem m10_7 : (Cond.methodLink "SignalTheatre$Code" 3 ⟨"java/lang/Object", "<init>", "()V"⟩ : Cond) ∈ q_big := q_m2 (List.mem_of_getElem? (i := 81) rfl) rfl
set_option maxRecDepth 20000 in
theorem m10_8 : (Cond.constant "SignalTheatre$Code" 11 (40000) : Cond) ∈ q_big := q_m2 (List.mem_of_getElem? (i := 82) rfl) rfl
set_option maxRecDepth 20000 in
theorem m10_9 : (Cond.fieldLink "SignalTheatre$Code" 12 "SignalTheatre$Code" "op" "[I" : Cond) ∈ q_big := q_m2 (List.mem_of_getElem? (i := 84) rfl) rfl
set_option maxRecDepth 20000 in
theorem m10_10 : (Cond.arrayClass FieldType.int : Cond) ∈ q_big := q_m1 (List.mem_of_getElem? (i := 136) rfl) rfl
set_option maxRecDepth 20000 in
theorem m10_11 : (Cond.fieldLink "SignalTheatre$Code" 16 "SignalTheatre$Code" "arg" "[I" : Cond) ∈ q_big := q_m2 (List.mem_of_getElem? (i := 88) rfl) rfl
set_option maxRecDepth 20000 in
theorem m10_12 : (Cond.fieldLink "SignalTheatre$Code" 19 "SignalTheatre$Code" "first" "[I" : Cond) ∈ q_big := q_m2 (List.mem_of_getElem? (i := 91) rfl) rfl
set_option maxRecDepth 20000 in
theorem m10_13 : (Cond.fieldLink "SignalTheatre$Code" 22 "SignalTheatre$Code" "own" "[I" : Cond) ∈ q_big := q_m2 (List.mem_of_getElem? (i := 96) rfl) rfl
set_option maxRecDepth 20000 in
theorem m10_14 : (Cond.fieldLink "SignalTheatre$Code" 25 "SignalTheatre$Code" "given" "[I" : Cond) ∈ q_big := q_m2 (List.mem_of_getElem? (i := 100) rfl) rfl
set_option maxRecDepth 20000 in
theorem m10_15 : (Cond.fieldLink "SignalTheatre$Code" 28 "SignalTheatre$Code" "ones" "[J" : Cond) ∈ q_big := q_m2 (List.mem_of_getElem? (i := 106) rfl) rfl
set_option maxRecDepth 20000 in
theorem m10_16 : (Cond.fieldLink "SignalTheatre$Code" 32 "SignalTheatre$Code" "unknown" "[J" : Cond) ∈ q_big := q_m2 (List.mem_of_getElem? (i := 108) rfl) rfl
set_option maxRecDepth 20000 in
theorem m10_17 : (Cond.fieldLink "SignalTheatre$Code" 35 "SignalTheatre$Code" "leftSignal" "[I" : Cond) ∈ q_big := q_m2 (List.mem_of_getElem? (i := 111) rfl) rfl
set_option maxRecDepth 20000 in
theorem m10_18 : (Cond.fieldLink "SignalTheatre$Code" 38 "SignalTheatre$Code" "leftWay" "[I" : Cond) ∈ q_big := q_m2 (List.mem_of_getElem? (i := 114) rfl) rfl
set_option maxRecDepth 20000 in
theorem m10_19 : (Cond.fieldLink "SignalTheatre$Code" 41 "SignalTheatre$Code" "leftIndex" "[I" : Cond) ∈ q_big := q_m2 (List.mem_of_getElem? (i := 116) rfl) rfl
set_option maxRecDepth 20000 in
theorem m10_20 : (Cond.fieldLink "SignalTheatre$Code" 44 "SignalTheatre$Code" "leftWidth" "[I" : Cond) ∈ q_big := q_m2 (List.mem_of_getElem? (i := 118) rfl) rfl
set_option maxRecDepth 20000 in
theorem m10_21 : (Cond.fieldLink "SignalTheatre$Code" 47 "SignalTheatre$Code" "driverNext" "[I" : Cond) ∈ q_big := q_m2 (List.mem_of_getElem? (i := 120) rfl) rfl
set_option maxRecDepth 20000 in
theorem m10_22 : (Cond.fieldLink "SignalTheatre$Code" 50 "SignalTheatre$Code" "driverOnes" "[J" : Cond) ∈ q_big := q_m2 (List.mem_of_getElem? (i := 123) rfl) rfl
set_option maxRecDepth 20000 in
theorem m10_23 : (Cond.fieldLink "SignalTheatre$Code" 53 "SignalTheatre$Code" "driverUnknown" "[J" : Cond) ∈ q_big := q_m2 (List.mem_of_getElem? (i := 126) rfl) rfl
set_option maxRecDepth 20000 in
theorem m10_24 : (Cond.constant "SignalTheatre$Code" 56 (160000) : Cond) ∈ q_big := q_m2 (List.mem_of_getElem? (i := 83) rfl) rfl
set_option maxRecDepth 20000 in
theorem m10_25 : (Cond.fieldLink "SignalTheatre$Code" 57 "SignalTheatre$Code" "line" "[I" : Cond) ∈ q_big := q_m2 (List.mem_of_getElem? (i := 132) rfl) rfl
set_option maxRecDepth 20000 in
theorem m10_26 : (Cond.methodLink "SignalTheatre$Tokens" 3 ⟨"java/lang/Object", "<init>", "()V"⟩ : Cond) ∈ q_big := q_m1 (List.mem_of_getElem? (i := 55) rfl) rfl
set_option maxRecDepth 20000 in
theorem m10_27 : (Cond.constant "SignalTheatre$Tokens" 9 (32769) : Cond) ∈ q_big := q_m1 (List.mem_of_getElem? (i := 56) rfl) rfl
set_option maxRecDepth 20000 in
theorem m10_28 : (Cond.fieldLink "SignalTheatre$Tokens" 10 "SignalTheatre$Tokens" "kind" "[I" : Cond) ∈ q_big := q_m1 (List.mem_of_getElem? (i := 59) rfl) rfl
set_option maxRecDepth 20000 in
theorem m10_29 : (Cond.fieldLink "SignalTheatre$Tokens" 16 "SignalTheatre$Tokens" "place" "[I" : Cond) ∈ q_big := q_m1 (List.mem_of_getElem? (i := 62) rfl) rfl
set_option maxRecDepth 20000 in
theorem m10_30 : (Cond.fieldLink "SignalTheatre$Tokens" 19 "SignalTheatre$Tokens" "info" "[I" : Cond) ∈ q_big := q_m1 (List.mem_of_getElem? (i := 67) rfl) rfl
set_option maxRecDepth 20000 in
theorem m10_31 : (Cond.fieldLink "SignalTheatre$Tokens" 22 "SignalTheatre$Tokens" "nameHead" "[I" : Cond) ∈ q_big := q_m1 (List.mem_of_getElem? (i := 73) rfl) rfl
set_option maxRecDepth 20000 in
theorem m10_32 : (Cond.fieldLink "SignalTheatre$Tokens" 25 "SignalTheatre$Tokens" "nameNext" "[I" : Cond) ∈ q_big := q_m1 (List.mem_of_getElem? (i := 74) rfl) rfl
set_option maxRecDepth 20000 in
theorem m10_33 : (Cond.fieldLink "SignalTheatre$Tokens" 28 "SignalTheatre$Tokens" "namePlace" "[I" : Cond) ∈ q_big := q_m1 (List.mem_of_getElem? (i := 75) rfl) rfl
set_option maxRecDepth 20000 in
theorem m10_34 : (Cond.fieldLink "SignalTheatre$Tokens" 31 "SignalTheatre$Tokens" "nameLength" "[I" : Cond) ∈ q_big := q_m1 (List.mem_of_getElem? (i := 76) rfl) rfl
set_option maxRecDepth 20000 in
theorem m10_35 : (Cond.fieldLink "SignalTheatre$Tokens" 34 "SignalTheatre$Tokens" "nameWord" "[I" : Cond) ∈ q_big := q_m1 (List.mem_of_getElem? (i := 79) rfl) rfl
set_option maxRecDepth 20000 in
theorem m10_36 : (Cond.fieldLink "SignalTheatre$Tokens" 37 "SignalTheatre$Tokens" "numberOnes" "[J" : Cond) ∈ q_big := q_m1 (List.mem_of_getElem? (i := 83) rfl) rfl
set_option maxRecDepth 20000 in
theorem m10_37 : (Cond.fieldLink "SignalTheatre$Tokens" 41 "SignalTheatre$Tokens" "numberUnknown" "[J" : Cond) ∈ q_big := q_m1 (List.mem_of_getElem? (i := 85) rfl) rfl
set_option maxRecDepth 20000 in
theorem m10_38 : (Cond.fieldLink "SignalTheatre$Tokens" 44 "SignalTheatre$Tokens" "numberShape" "[I" : Cond) ∈ q_big := q_m1 (List.mem_of_getElem? (i := 87) rfl) rfl
set_option maxRecDepth 20000 in
theorem m10_39 : (Cond.methodLink "SignalTheatre$Faults" 1 ⟨"java/lang/Object", "<init>", "()V"⟩ : Cond) ∈ q_big := q_m1 (List.mem_of_getElem? (i := 143) rfl) rfl
set_option maxRecDepth 20000 in
theorem m10_40 : (Cond.fieldLink "SignalTheatre$Faults" 7 "SignalTheatre$Faults" "place" "I" : Cond) ∈ q_big := q_m1 (List.mem_of_getElem? (i := 147) rfl) rfl
set_option maxRecDepth 20000 in
theorem m10_41 : (Cond.fieldLink "SignalTheatre$Faults" 13 "SignalTheatre$Faults" "tokens" "LSignalTheatre$Tokens;" : Cond) ∈ q_big := q_m1 (List.mem_of_getElem? (i := 144) rfl) rfl
set_option maxRecDepth 20000 in
theorem m10_42 : (Cond.methodLink "SignalTheatre$Maker" 3 ⟨"java/lang/Object", "<init>", "()V"⟩ : Cond) ∈ q_big := q_m1 (List.mem_of_getElem? (i := 207) rfl) rfl
set_option maxRecDepth 20000 in
theorem m10_43 : (Cond.fieldLink "SignalTheatre$Maker" 11 "SignalTheatre$Maker" "head" "[I" : Cond) ∈ q_big := q_m1 (List.mem_of_getElem? (i := 227) rfl) rfl
set_option maxRecDepth 20000 in
theorem m10_44 : (Cond.fieldLink "SignalTheatre$Maker" 17 "SignalTheatre$Maker" "symbolName" "[I" : Cond) ∈ q_big := q_m1 (List.mem_of_getElem? (i := 228) rfl) rfl
set_option maxRecDepth 20000 in
theorem m10_45 : (Cond.fieldLink "SignalTheatre$Maker" 20 "SignalTheatre$Maker" "symbolScope" "[I" : Cond) ∈ q_big := q_m1 (List.mem_of_getElem? (i := 229) rfl) rfl
set_option maxRecDepth 20000 in
theorem m10_46 : (Cond.fieldLink "SignalTheatre$Maker" 23 "SignalTheatre$Maker" "symbolSort" "[I" : Cond) ∈ q_big := q_m1 (List.mem_of_getElem? (i := 230) rfl) rfl
set_option maxRecDepth 20000 in
theorem m10_47 : (Cond.fieldLink "SignalTheatre$Maker" 26 "SignalTheatre$Maker" "symbolWorth" "[I" : Cond) ∈ q_big := q_m1 (List.mem_of_getElem? (i := 231) rfl) rfl
set_option maxRecDepth 20000 in
theorem m10_48 : (Cond.fieldLink "SignalTheatre$Maker" 29 "SignalTheatre$Maker" "symbolBelow" "[I" : Cond) ∈ q_big := q_m1 (List.mem_of_getElem? (i := 232) rfl) rfl
set_option maxRecDepth 20000 in
theorem m10_49 : (Cond.fieldLink "SignalTheatre$Maker" 32 "SignalTheatre$Maker" "tokens" "LSignalTheatre$Tokens;" : Cond) ∈ q_big := q_m1 (List.mem_of_getElem? (i := 208) rfl) rfl
set_option maxRecDepth 20000 in
theorem m10_50 : (Cond.fieldLink "SignalTheatre$Maker" 36 "SignalTheatre$Maker" "faults" "LSignalTheatre$Faults;" : Cond) ∈ q_big := q_m1 (List.mem_of_getElem? (i := 209) rfl) rfl
set_option maxRecDepth 20000 in
theorem m10_51 : (Cond.fieldLink "SignalTheatre$Maker" 40 "SignalTheatre$Maker" "worth" "LSignalTheatre$Worth;" : Cond) ∈ q_big := q_m1 (List.mem_of_getElem? (i := 210) rfl) rfl
set_option maxRecDepth 20000 in
theorem m10_52 : (Cond.methodLink "SignalTheatre$Reader" 3 ⟨"java/lang/Object", "<init>", "()V"⟩ : Cond) ∈ q_big := q_m2 (List.mem_of_getElem? (i := 37) rfl) rfl
set_option maxRecDepth 20000 in
theorem m10_53 : (Cond.fieldLink "SignalTheatre$Reader" 11 "SignalTheatre$Reader" "waiting" "[I" : Cond) ∈ q_big := q_m2 (List.mem_of_getElem? (i := 41) rfl) rfl
set_option maxRecDepth 20000 in
theorem m10_54 : (Cond.fieldLink "SignalTheatre$Reader" 15 "SignalTheatre$Reader" "tokens" "LSignalTheatre$Tokens;" : Cond) ∈ q_big := q_m2 (List.mem_of_getElem? (i := 38) rfl) rfl
set_option maxRecDepth 20000 in
theorem m10_55 : (Cond.fieldLink "SignalTheatre$Reader" 19 "SignalTheatre$Reader" "faults" "LSignalTheatre$Faults;" : Cond) ∈ q_big := q_m2 (List.mem_of_getElem? (i := 39) rfl) rfl
set_option maxRecDepth 20000 in
theorem m10_56 : (Cond.fieldLink "SignalTheatre$Reader" 23 "SignalTheatre$Reader" "maker" "LSignalTheatre$Maker;" : Cond) ∈ q_big := q_m2 (List.mem_of_getElem? (i := 40) rfl) rfl
set_option maxRecDepth 20000 in
theorem m10_57 : (Cond.methodLink "SignalTheatre$Agenda" 5 ⟨"java/lang/Object", "<init>", "()V"⟩ : Cond) ∈ q_big := q_m3 (List.mem_of_getElem? (i := 182) rfl) rfl
set_option maxRecDepth 20000 in
theorem m10_58 : (Cond.fieldLink "SignalTheatre$Agenda" 11 "SignalTheatre$Agenda" "next" "[I" : Cond) ∈ q_big := q_m3 (List.mem_of_getElem? (i := 186) rfl) rfl
set_option maxRecDepth 20000 in
theorem m10_59 : (Cond.fieldLink "SignalTheatre$Agenda" 15 "SignalTheatre$Agenda" "head" "[I" : Cond) ∈ q_big := q_m3 (List.mem_of_getElem? (i := 187) rfl) rfl
set_option maxRecDepth 20000 in
theorem m10_60 : (Cond.fieldLink "SignalTheatre$Agenda" 18 "SignalTheatre$Agenda" "tail" "[I" : Cond) ∈ q_big := q_m3 (List.mem_of_getElem? (i := 188) rfl) rfl
set_option maxRecDepth 20000 in
theorem m10_61 : (Cond.fieldLink "SignalTheatre$Agenda" 21 "SignalTheatre$Agenda" "size" "[I" : Cond) ∈ q_big := q_m3 (List.mem_of_getElem? (i := 189) rfl) rfl
set_option maxRecDepth 20000 in
theorem m10_62 : (Cond.fieldLink "SignalTheatre$Agenda" 24 "SignalTheatre$Agenda" "due" "[J" : Cond) ∈ q_big := q_m3 (List.mem_of_getElem? (i := 191) rfl) rfl
set_option maxRecDepth 20000 in
theorem m10_63 : (Cond.fieldLink "SignalTheatre$Agenda" 28 "SignalTheatre$Agenda" "rank" "[J" : Cond) ∈ q_big := q_m3 (List.mem_of_getElem? (i := 192) rfl) rfl
set_option maxRecDepth 20000 in
theorem m10_64 : (Cond.fieldLink "SignalTheatre$Agenda" 31 "SignalTheatre$Agenda" "event" "[I" : Cond) ∈ q_big := q_m3 (List.mem_of_getElem? (i := 193) rfl) rfl
set_option maxRecDepth 20000 in
theorem m10_65 : (Cond.fieldLink "SignalTheatre$Agenda" 34 "SignalTheatre$Agenda" "signal" "[I" : Cond) ∈ q_big := q_m3 (List.mem_of_getElem? (i := 198) rfl) rfl
set_option maxRecDepth 20000 in
theorem m10_66 : (Cond.fieldLink "SignalTheatre$Agenda" 37 "SignalTheatre$Agenda" "spot" "[I" : Cond) ∈ q_big := q_m3 (List.mem_of_getElem? (i := 200) rfl) rfl
set_option maxRecDepth 20000 in
theorem m10_67 : (Cond.fieldLink "SignalTheatre$Agenda" 40 "SignalTheatre$Agenda" "width" "[I" : Cond) ∈ q_big := q_m3 (List.mem_of_getElem? (i := 202) rfl) rfl
set_option maxRecDepth 20000 in
theorem m10_68 : (Cond.fieldLink "SignalTheatre$Agenda" 43 "SignalTheatre$Agenda" "ones" "[J" : Cond) ∈ q_big := q_m3 (List.mem_of_getElem? (i := 204) rfl) rfl
set_option maxRecDepth 20000 in
theorem m10_69 : (Cond.fieldLink "SignalTheatre$Agenda" 46 "SignalTheatre$Agenda" "unknown" "[J" : Cond) ∈ q_big := q_m3 (List.mem_of_getElem? (i := 206) rfl) rfl
set_option maxRecDepth 20000 in
theorem m10_70 : (Cond.methodLink "SignalTheatre$Book" 3 ⟨"java/lang/Object", "<init>", "()V"⟩ : Cond) ∈ q_big := q_m4 (List.mem_of_getElem? (i := 6) rfl) rfl
set_option maxRecDepth 20000 in
theorem m10_71 : (Cond.constant "SignalTheatre$Book" 9 (32768) : Cond) ∈ q_big := q_m4 (List.mem_of_getElem? (i := 7) rfl) rfl
set_option maxRecDepth 20000 in
theorem m10_72 : (Cond.fieldLink "SignalTheatre$Book" 10 "SignalTheatre$Book" "bytes" "[B" : Cond) ∈ q_big := q_m4 (List.mem_of_getElem? (i := 8) rfl) rfl
set_option maxRecDepth 20000 in
theorem m10_73 : (Cond.arrayClass FieldType.byte : Cond) ∈ q_big := q_m1 (List.mem_of_getElem? (i := 135) rfl) rfl
set_option maxRecDepth 20000 in
theorem m10_74 : (Cond.fieldLink "SignalTheatre$Book" 16 "SignalTheatre$Book" "string" "[B" : Cond) ∈ q_big := q_m4 (List.mem_of_getElem? (i := 13) rfl) rfl
set_option maxRecDepth 20000 in
theorem m10_75 : (Cond.fieldLink "SignalTheatre$Book" 19 "SignalTheatre$Book" "digits" "[I" : Cond) ∈ q_big := q_m4 (List.mem_of_getElem? (i := 14) rfl) rfl
set_option maxRecDepth 20000 in
theorem m10_76 : (Cond.fieldLink "SignalTheatre$Book" 23 "SignalTheatre$Book" "worth" "LSignalTheatre$Worth;" : Cond) ∈ q_big := q_m4 (List.mem_of_getElem? (i := 15) rfl) rfl
set_option maxRecDepth 20000 in
theorem m10_77 : (Cond.methodLink "SignalTheatre$Stage" 3 ⟨"java/lang/Object", "<init>", "()V"⟩ : Cond) ∈ q_big := q_m4 (List.mem_of_getElem? (i := 33) rfl) rfl
set_option maxRecDepth 20000 in
theorem m10_78 : (Cond.fieldLink "SignalTheatre$Stage" 9 "SignalTheatre$Stage" "line" "[I" : Cond) ∈ q_big := q_m4 (List.mem_of_getElem? (i := 41) rfl) rfl
set_option maxRecDepth 20000 in
theorem m10_79 : (Cond.fieldLink "SignalTheatre$Stage" 15 "SignalTheatre$Stage" "heldOnes" "[J" : Cond) ∈ q_big := q_m4 (List.mem_of_getElem? (i := 42) rfl) rfl
set_option maxRecDepth 20000 in
theorem m10_80 : (Cond.fieldLink "SignalTheatre$Stage" 19 "SignalTheatre$Stage" "heldUnknown" "[J" : Cond) ∈ q_big := q_m4 (List.mem_of_getElem? (i := 43) rfl) rfl
set_option maxRecDepth 20000 in
theorem m10_81 : (Cond.fieldLink "SignalTheatre$Stage" 22 "SignalTheatre$Stage" "events" "[I" : Cond) ∈ q_big := q_m4 (List.mem_of_getElem? (i := 44) rfl) rfl
set_option maxRecDepth 20000 in
theorem m10_82 : (Cond.fieldLink "SignalTheatre$Stage" 25 "SignalTheatre$Stage" "heeded" "[J" : Cond) ∈ q_big := q_m4 (List.mem_of_getElem? (i := 45) rfl) rfl
set_option maxRecDepth 20000 in
theorem m10_83 : (Cond.fieldLink "SignalTheatre$Stage" 28 "SignalTheatre$Stage" "waiting" "[I" : Cond) ∈ q_big := q_m4 (List.mem_of_getElem? (i := 46) rfl) rfl
set_option maxRecDepth 20000 in
theorem m10_84 : (Cond.fieldLink "SignalTheatre$Stage" 33 "SignalTheatre$Stage" "counters" "[J" : Cond) ∈ q_big := q_m4 (List.mem_of_getElem? (i := 48) rfl) rfl
set_option maxRecDepth 20000 in
theorem m10_85 : (Cond.fieldLink "SignalTheatre$Stage" 36 "SignalTheatre$Stage" "agenda" "LSignalTheatre$Agenda;" : Cond) ∈ q_big := q_m4 (List.mem_of_getElem? (i := 34) rfl) rfl
set_option maxRecDepth 20000 in
theorem m10_86 : (Cond.fieldLink "SignalTheatre$Stage" 40 "SignalTheatre$Stage" "worth" "LSignalTheatre$Worth;" : Cond) ∈ q_big := q_m4 (List.mem_of_getElem? (i := 36) rfl) rfl
set_option maxRecDepth 20000 in
theorem m10_87 : (Cond.fieldLink "SignalTheatre$Stage" 44 "SignalTheatre$Stage" "book" "LSignalTheatre$Book;" : Cond) ∈ q_big := q_m4 (List.mem_of_getElem? (i := 37) rfl) rfl
theorem d10_Sig_init_0 : decode prog_10_method_1_code 0 = .ok (.aload_n 0, 1) := by decide +kernel
theorem d10_Sig_init_1 : decode prog_10_method_1_code 1 = .ok (.invokespecial 1, 3) := by decide +kernel
theorem d10_Sig_init_4 : decode prog_10_method_1_code 4 = .ok (.return_, 1) := by decide +kernel
theorem d10_Wor_init_0 : decode prog_13_method_1_code 0 = .ok (.aload_n 0, 1) := by decide +kernel
theorem d10_Wor_init_1 : decode prog_13_method_1_code 1 = .ok (.invokespecial 3, 3) := by decide +kernel
theorem d10_Wor_init_4 : decode prog_13_method_1_code 4 = .ok (.aload_n 0, 1) := by decide +kernel
theorem d10_Wor_init_5 : decode prog_13_method_1_code 5 = .ok (.sipush 1024, 3) := by decide +kernel
theorem d10_Wor_init_8 : decode prog_13_method_1_code 8 = .ok (.newarray .long, 2) := by decide +kernel
theorem d10_Wor_init_10 : decode prog_13_method_1_code 10 = .ok (.putfield 11, 3) := by decide +kernel
theorem d10_Wor_init_13 : decode prog_13_method_1_code 13 = .ok (.aload_n 0, 1) := by decide +kernel
theorem d10_Wor_init_14 : decode prog_13_method_1_code 14 = .ok (.sipush 1024, 3) := by decide +kernel
theorem d10_Wor_init_17 : decode prog_13_method_1_code 17 = .ok (.newarray .long, 2) := by decide +kernel
theorem d10_Wor_init_19 : decode prog_13_method_1_code 19 = .ok (.putfield 15, 3) := by decide +kernel
theorem d10_Wor_init_22 : decode prog_13_method_1_code 22 = .ok (.return_, 1) := by decide +kernel
theorem d10_Cod_init_0 : decode prog_6_method_1_code 0 = .ok (.aload_n 0, 1) := by decide +kernel
theorem d10_Cod_init_1 : decode prog_6_method_1_code 1 = .ok (.invokespecial 3, 3) := by decide +kernel
theorem d10_Cod_init_4 : decode prog_6_method_1_code 4 = .ok (.aload_n 0, 1) := by decide +kernel
theorem d10_Cod_init_5 : decode prog_6_method_1_code 5 = .ok (.ldc 11, 2) := by decide +kernel
theorem d10_Cod_init_7 : decode prog_6_method_1_code 7 = .ok (.newarray .int, 2) := by decide +kernel
theorem d10_Cod_init_9 : decode prog_6_method_1_code 9 = .ok (.putfield 12, 3) := by decide +kernel
theorem d10_Cod_init_12 : decode prog_6_method_1_code 12 = .ok (.aload_n 0, 1) := by decide +kernel
theorem d10_Cod_init_13 : decode prog_6_method_1_code 13 = .ok (.ldc 11, 2) := by decide +kernel
theorem d10_Cod_init_15 : decode prog_6_method_1_code 15 = .ok (.newarray .int, 2) := by decide +kernel
theorem d10_Cod_init_17 : decode prog_6_method_1_code 17 = .ok (.putfield 16, 3) := by decide +kernel
theorem d10_Cod_init_20 : decode prog_6_method_1_code 20 = .ok (.aload_n 0, 1) := by decide +kernel
theorem d10_Cod_init_21 : decode prog_6_method_1_code 21 = .ok (.ldc 11, 2) := by decide +kernel
theorem d10_Cod_init_23 : decode prog_6_method_1_code 23 = .ok (.newarray .int, 2) := by decide +kernel
theorem d10_Cod_init_25 : decode prog_6_method_1_code 25 = .ok (.putfield 19, 3) := by decide +kernel
theorem d10_Cod_init_28 : decode prog_6_method_1_code 28 = .ok (.aload_n 0, 1) := by decide +kernel
theorem d10_Cod_init_29 : decode prog_6_method_1_code 29 = .ok (.ldc 11, 2) := by decide +kernel
theorem d10_Cod_init_31 : decode prog_6_method_1_code 31 = .ok (.newarray .int, 2) := by decide +kernel
theorem d10_Cod_init_33 : decode prog_6_method_1_code 33 = .ok (.putfield 22, 3) := by decide +kernel
theorem d10_Cod_init_36 : decode prog_6_method_1_code 36 = .ok (.aload_n 0, 1) := by decide +kernel
theorem d10_Cod_init_37 : decode prog_6_method_1_code 37 = .ok (.ldc 11, 2) := by decide +kernel
theorem d10_Cod_init_39 : decode prog_6_method_1_code 39 = .ok (.newarray .int, 2) := by decide +kernel
theorem d10_Cod_init_41 : decode prog_6_method_1_code 41 = .ok (.putfield 25, 3) := by decide +kernel
theorem d10_Cod_init_44 : decode prog_6_method_1_code 44 = .ok (.aload_n 0, 1) := by decide +kernel
theorem d10_Cod_init_45 : decode prog_6_method_1_code 45 = .ok (.sipush 20000, 3) := by decide +kernel
theorem d10_Cod_init_48 : decode prog_6_method_1_code 48 = .ok (.newarray .long, 2) := by decide +kernel
theorem d10_Cod_init_50 : decode prog_6_method_1_code 50 = .ok (.putfield 28, 3) := by decide +kernel
theorem d10_Cod_init_53 : decode prog_6_method_1_code 53 = .ok (.aload_n 0, 1) := by decide +kernel
theorem d10_Cod_init_54 : decode prog_6_method_1_code 54 = .ok (.sipush 20000, 3) := by decide +kernel
theorem d10_Cod_init_57 : decode prog_6_method_1_code 57 = .ok (.newarray .long, 2) := by decide +kernel
theorem d10_Cod_init_59 : decode prog_6_method_1_code 59 = .ok (.putfield 32, 3) := by decide +kernel
theorem d10_Cod_init_62 : decode prog_6_method_1_code 62 = .ok (.aload_n 0, 1) := by decide +kernel
theorem d10_Cod_init_63 : decode prog_6_method_1_code 63 = .ok (.sipush 20000, 3) := by decide +kernel
theorem d10_Cod_init_66 : decode prog_6_method_1_code 66 = .ok (.newarray .int, 2) := by decide +kernel
theorem d10_Cod_init_68 : decode prog_6_method_1_code 68 = .ok (.putfield 35, 3) := by decide +kernel
theorem d10_Cod_init_71 : decode prog_6_method_1_code 71 = .ok (.aload_n 0, 1) := by decide +kernel
theorem d10_Cod_init_72 : decode prog_6_method_1_code 72 = .ok (.sipush 20000, 3) := by decide +kernel
theorem d10_Cod_init_75 : decode prog_6_method_1_code 75 = .ok (.newarray .int, 2) := by decide +kernel
theorem d10_Cod_init_77 : decode prog_6_method_1_code 77 = .ok (.putfield 38, 3) := by decide +kernel
theorem d10_Cod_init_80 : decode prog_6_method_1_code 80 = .ok (.aload_n 0, 1) := by decide +kernel
theorem d10_Cod_init_81 : decode prog_6_method_1_code 81 = .ok (.sipush 20000, 3) := by decide +kernel
theorem d10_Cod_init_84 : decode prog_6_method_1_code 84 = .ok (.newarray .int, 2) := by decide +kernel
theorem d10_Cod_init_86 : decode prog_6_method_1_code 86 = .ok (.putfield 41, 3) := by decide +kernel
theorem d10_Cod_init_89 : decode prog_6_method_1_code 89 = .ok (.aload_n 0, 1) := by decide +kernel
theorem d10_Cod_init_90 : decode prog_6_method_1_code 90 = .ok (.sipush 20000, 3) := by decide +kernel
theorem d10_Cod_init_93 : decode prog_6_method_1_code 93 = .ok (.newarray .int, 2) := by decide +kernel
theorem d10_Cod_init_95 : decode prog_6_method_1_code 95 = .ok (.putfield 44, 3) := by decide +kernel
theorem d10_Cod_init_98 : decode prog_6_method_1_code 98 = .ok (.aload_n 0, 1) := by decide +kernel
theorem d10_Cod_init_99 : decode prog_6_method_1_code 99 = .ok (.sipush 20000, 3) := by decide +kernel
theorem d10_Cod_init_102 : decode prog_6_method_1_code 102 = .ok (.newarray .int, 2) := by decide +kernel
theorem d10_Cod_init_104 : decode prog_6_method_1_code 104 = .ok (.putfield 47, 3) := by decide +kernel
theorem d10_Cod_init_107 : decode prog_6_method_1_code 107 = .ok (.aload_n 0, 1) := by decide +kernel
theorem d10_Cod_init_108 : decode prog_6_method_1_code 108 = .ok (.sipush 20000, 3) := by decide +kernel
theorem d10_Cod_init_111 : decode prog_6_method_1_code 111 = .ok (.newarray .long, 2) := by decide +kernel
theorem d10_Cod_init_113 : decode prog_6_method_1_code 113 = .ok (.putfield 50, 3) := by decide +kernel
theorem d10_Cod_init_116 : decode prog_6_method_1_code 116 = .ok (.aload_n 0, 1) := by decide +kernel
theorem d10_Cod_init_117 : decode prog_6_method_1_code 117 = .ok (.sipush 20000, 3) := by decide +kernel
theorem d10_Cod_init_120 : decode prog_6_method_1_code 120 = .ok (.newarray .long, 2) := by decide +kernel
theorem d10_Cod_init_122 : decode prog_6_method_1_code 122 = .ok (.putfield 53, 3) := by decide +kernel
theorem d10_Cod_init_125 : decode prog_6_method_1_code 125 = .ok (.aload_n 0, 1) := by decide +kernel
theorem d10_Cod_init_126 : decode prog_6_method_1_code 126 = .ok (.ldc 56, 2) := by decide +kernel
theorem d10_Cod_init_128 : decode prog_6_method_1_code 128 = .ok (.newarray .int, 2) := by decide +kernel
theorem d10_Cod_init_130 : decode prog_6_method_1_code 130 = .ok (.putfield 57, 3) := by decide +kernel
theorem d10_Cod_init_133 : decode prog_6_method_1_code 133 = .ok (.return_, 1) := by decide +kernel
theorem d10_Tok_init_0 : decode prog_12_method_1_code 0 = .ok (.aload_n 0, 1) := by decide +kernel
theorem d10_Tok_init_1 : decode prog_12_method_1_code 1 = .ok (.invokespecial 3, 3) := by decide +kernel
theorem d10_Tok_init_4 : decode prog_12_method_1_code 4 = .ok (.aload_n 0, 1) := by decide +kernel
theorem d10_Tok_init_5 : decode prog_12_method_1_code 5 = .ok (.ldc 9, 2) := by decide +kernel
theorem d10_Tok_init_7 : decode prog_12_method_1_code 7 = .ok (.newarray .int, 2) := by decide +kernel
theorem d10_Tok_init_9 : decode prog_12_method_1_code 9 = .ok (.putfield 10, 3) := by decide +kernel
theorem d10_Tok_init_12 : decode prog_12_method_1_code 12 = .ok (.aload_n 0, 1) := by decide +kernel
theorem d10_Tok_init_13 : decode prog_12_method_1_code 13 = .ok (.ldc 9, 2) := by decide +kernel
theorem d10_Tok_init_15 : decode prog_12_method_1_code 15 = .ok (.newarray .int, 2) := by decide +kernel
theorem d10_Tok_init_17 : decode prog_12_method_1_code 17 = .ok (.putfield 16, 3) := by decide +kernel
theorem d10_Tok_init_20 : decode prog_12_method_1_code 20 = .ok (.aload_n 0, 1) := by decide +kernel
theorem d10_Tok_init_21 : decode prog_12_method_1_code 21 = .ok (.ldc 9, 2) := by decide +kernel
theorem d10_Tok_init_23 : decode prog_12_method_1_code 23 = .ok (.newarray .int, 2) := by decide +kernel
theorem d10_Tok_init_25 : decode prog_12_method_1_code 25 = .ok (.putfield 19, 3) := by decide +kernel
theorem d10_Tok_init_28 : decode prog_12_method_1_code 28 = .ok (.aload_n 0, 1) := by decide +kernel
theorem d10_Tok_init_29 : decode prog_12_method_1_code 29 = .ok (.sipush 1024, 3) := by decide +kernel
theorem d10_Tok_init_32 : decode prog_12_method_1_code 32 = .ok (.newarray .int, 2) := by decide +kernel
theorem d10_Tok_init_34 : decode prog_12_method_1_code 34 = .ok (.putfield 22, 3) := by decide +kernel
theorem d10_Tok_init_37 : decode prog_12_method_1_code 37 = .ok (.aload_n 0, 1) := by decide +kernel
theorem d10_Tok_init_38 : decode prog_12_method_1_code 38 = .ok (.sipush 16385, 3) := by decide +kernel
theorem d10_Tok_init_41 : decode prog_12_method_1_code 41 = .ok (.newarray .int, 2) := by decide +kernel
theorem d10_Tok_init_43 : decode prog_12_method_1_code 43 = .ok (.putfield 25, 3) := by decide +kernel
theorem d10_Tok_init_46 : decode prog_12_method_1_code 46 = .ok (.aload_n 0, 1) := by decide +kernel
theorem d10_Tok_init_47 : decode prog_12_method_1_code 47 = .ok (.sipush 16385, 3) := by decide +kernel
theorem d10_Tok_init_50 : decode prog_12_method_1_code 50 = .ok (.newarray .int, 2) := by decide +kernel
theorem d10_Tok_init_52 : decode prog_12_method_1_code 52 = .ok (.putfield 28, 3) := by decide +kernel
theorem d10_Tok_init_55 : decode prog_12_method_1_code 55 = .ok (.aload_n 0, 1) := by decide +kernel
theorem d10_Tok_init_56 : decode prog_12_method_1_code 56 = .ok (.sipush 16385, 3) := by decide +kernel
theorem d10_Tok_init_59 : decode prog_12_method_1_code 59 = .ok (.newarray .int, 2) := by decide +kernel
theorem d10_Tok_init_61 : decode prog_12_method_1_code 61 = .ok (.putfield 31, 3) := by decide +kernel
theorem d10_Tok_init_64 : decode prog_12_method_1_code 64 = .ok (.aload_n 0, 1) := by decide +kernel
theorem d10_Tok_init_65 : decode prog_12_method_1_code 65 = .ok (.sipush 16385, 3) := by decide +kernel
theorem d10_Tok_init_68 : decode prog_12_method_1_code 68 = .ok (.newarray .int, 2) := by decide +kernel
theorem d10_Tok_init_70 : decode prog_12_method_1_code 70 = .ok (.putfield 34, 3) := by decide +kernel
theorem d10_Tok_init_73 : decode prog_12_method_1_code 73 = .ok (.aload_n 0, 1) := by decide +kernel
theorem d10_Tok_init_74 : decode prog_12_method_1_code 74 = .ok (.sipush 16385, 3) := by decide +kernel
theorem d10_Tok_init_77 : decode prog_12_method_1_code 77 = .ok (.newarray .long, 2) := by decide +kernel
theorem d10_Tok_init_79 : decode prog_12_method_1_code 79 = .ok (.putfield 37, 3) := by decide +kernel
theorem d10_Tok_init_82 : decode prog_12_method_1_code 82 = .ok (.aload_n 0, 1) := by decide +kernel
theorem d10_Tok_init_83 : decode prog_12_method_1_code 83 = .ok (.sipush 16385, 3) := by decide +kernel
theorem d10_Tok_init_86 : decode prog_12_method_1_code 86 = .ok (.newarray .long, 2) := by decide +kernel
theorem d10_Tok_init_88 : decode prog_12_method_1_code 88 = .ok (.putfield 41, 3) := by decide +kernel
theorem d10_Tok_init_91 : decode prog_12_method_1_code 91 = .ok (.aload_n 0, 1) := by decide +kernel
theorem d10_Tok_init_92 : decode prog_12_method_1_code 92 = .ok (.sipush 16385, 3) := by decide +kernel
theorem d10_Tok_init_95 : decode prog_12_method_1_code 95 = .ok (.newarray .int, 2) := by decide +kernel
theorem d10_Tok_init_97 : decode prog_12_method_1_code 97 = .ok (.putfield 44, 3) := by decide +kernel
theorem d10_Tok_init_100 : decode prog_12_method_1_code 100 = .ok (.return_, 1) := by decide +kernel
theorem d10_Flt_init_0 : decode prog_7_method_1_code 0 = .ok (.aload_n 0, 1) := by decide +kernel
theorem d10_Flt_init_1 : decode prog_7_method_1_code 1 = .ok (.invokespecial 1, 3) := by decide +kernel
theorem d10_Flt_init_4 : decode prog_7_method_1_code 4 = .ok (.aload_n 0, 1) := by decide +kernel
theorem d10_Flt_init_5 : decode prog_7_method_1_code 5 = .ok (.iconst (-1), 1) := by decide +kernel
theorem d10_Flt_init_6 : decode prog_7_method_1_code 6 = .ok (.putfield 7, 3) := by decide +kernel
theorem d10_Flt_init_9 : decode prog_7_method_1_code 9 = .ok (.aload_n 0, 1) := by decide +kernel
theorem d10_Flt_init_10 : decode prog_7_method_1_code 10 = .ok (.aload_n 1, 1) := by decide +kernel
theorem d10_Flt_init_11 : decode prog_7_method_1_code 11 = .ok (.putfield 13, 3) := by decide +kernel
theorem d10_Flt_init_14 : decode prog_7_method_1_code 14 = .ok (.return_, 1) := by decide +kernel
theorem d10_Mak_init_0 : decode prog_8_method_1_code 0 = .ok (.aload_n 0, 1) := by decide +kernel
theorem d10_Mak_init_1 : decode prog_8_method_1_code 1 = .ok (.invokespecial 3, 3) := by decide +kernel
theorem d10_Mak_init_4 : decode prog_8_method_1_code 4 = .ok (.aload_n 0, 1) := by decide +kernel
theorem d10_Mak_init_5 : decode prog_8_method_1_code 5 = .ok (.sipush 16385, 3) := by decide +kernel
theorem d10_Mak_init_8 : decode prog_8_method_1_code 8 = .ok (.newarray .int, 2) := by decide +kernel
theorem d10_Mak_init_10 : decode prog_8_method_1_code 10 = .ok (.putfield 11, 3) := by decide +kernel
theorem d10_Mak_init_13 : decode prog_8_method_1_code 13 = .ok (.aload_n 0, 1) := by decide +kernel
theorem d10_Mak_init_14 : decode prog_8_method_1_code 14 = .ok (.sipush 8500, 3) := by decide +kernel
theorem d10_Mak_init_17 : decode prog_8_method_1_code 17 = .ok (.newarray .int, 2) := by decide +kernel
theorem d10_Mak_init_19 : decode prog_8_method_1_code 19 = .ok (.putfield 17, 3) := by decide +kernel
theorem d10_Mak_init_22 : decode prog_8_method_1_code 22 = .ok (.aload_n 0, 1) := by decide +kernel
theorem d10_Mak_init_23 : decode prog_8_method_1_code 23 = .ok (.sipush 8500, 3) := by decide +kernel
theorem d10_Mak_init_26 : decode prog_8_method_1_code 26 = .ok (.newarray .int, 2) := by decide +kernel
theorem d10_Mak_init_28 : decode prog_8_method_1_code 28 = .ok (.putfield 20, 3) := by decide +kernel
theorem d10_Mak_init_31 : decode prog_8_method_1_code 31 = .ok (.aload_n 0, 1) := by decide +kernel
theorem d10_Mak_init_32 : decode prog_8_method_1_code 32 = .ok (.sipush 8500, 3) := by decide +kernel
theorem d10_Mak_init_35 : decode prog_8_method_1_code 35 = .ok (.newarray .int, 2) := by decide +kernel
theorem d10_Mak_init_37 : decode prog_8_method_1_code 37 = .ok (.putfield 23, 3) := by decide +kernel
theorem d10_Mak_init_40 : decode prog_8_method_1_code 40 = .ok (.aload_n 0, 1) := by decide +kernel
theorem d10_Mak_init_41 : decode prog_8_method_1_code 41 = .ok (.sipush 8500, 3) := by decide +kernel
theorem d10_Mak_init_44 : decode prog_8_method_1_code 44 = .ok (.newarray .int, 2) := by decide +kernel
theorem d10_Mak_init_46 : decode prog_8_method_1_code 46 = .ok (.putfield 26, 3) := by decide +kernel
theorem d10_Mak_init_49 : decode prog_8_method_1_code 49 = .ok (.aload_n 0, 1) := by decide +kernel
theorem d10_Mak_init_50 : decode prog_8_method_1_code 50 = .ok (.sipush 8500, 3) := by decide +kernel
theorem d10_Mak_init_53 : decode prog_8_method_1_code 53 = .ok (.newarray .int, 2) := by decide +kernel
theorem d10_Mak_init_55 : decode prog_8_method_1_code 55 = .ok (.putfield 29, 3) := by decide +kernel
theorem d10_Mak_init_58 : decode prog_8_method_1_code 58 = .ok (.aload_n 0, 1) := by decide +kernel
theorem d10_Mak_init_59 : decode prog_8_method_1_code 59 = .ok (.aload_n 1, 1) := by decide +kernel
theorem d10_Mak_init_60 : decode prog_8_method_1_code 60 = .ok (.putfield 32, 3) := by decide +kernel
theorem d10_Mak_init_63 : decode prog_8_method_1_code 63 = .ok (.aload_n 0, 1) := by decide +kernel
theorem d10_Mak_init_64 : decode prog_8_method_1_code 64 = .ok (.aload_n 2, 1) := by decide +kernel
theorem d10_Mak_init_65 : decode prog_8_method_1_code 65 = .ok (.putfield 36, 3) := by decide +kernel
theorem d10_Mak_init_68 : decode prog_8_method_1_code 68 = .ok (.aload_n 0, 1) := by decide +kernel
theorem d10_Mak_init_69 : decode prog_8_method_1_code 69 = .ok (.aload_n 3, 1) := by decide +kernel
theorem d10_Mak_init_70 : decode prog_8_method_1_code 70 = .ok (.putfield 40, 3) := by decide +kernel
theorem d10_Mak_init_73 : decode prog_8_method_1_code 73 = .ok (.return_, 1) := by decide +kernel
theorem d10_Rea_init_0 : decode prog_9_method_1_code 0 = .ok (.aload_n 0, 1) := by decide +kernel
theorem d10_Rea_init_1 : decode prog_9_method_1_code 1 = .ok (.invokespecial 3, 3) := by decide +kernel
theorem d10_Rea_init_4 : decode prog_9_method_1_code 4 = .ok (.aload_n 0, 1) := by decide +kernel
theorem d10_Rea_init_5 : decode prog_9_method_1_code 5 = .ok (.sipush 1024, 3) := by decide +kernel
theorem d10_Rea_init_8 : decode prog_9_method_1_code 8 = .ok (.newarray .int, 2) := by decide +kernel
theorem d10_Rea_init_10 : decode prog_9_method_1_code 10 = .ok (.putfield 11, 3) := by decide +kernel
theorem d10_Rea_init_13 : decode prog_9_method_1_code 13 = .ok (.aload_n 0, 1) := by decide +kernel
theorem d10_Rea_init_14 : decode prog_9_method_1_code 14 = .ok (.aload_n 1, 1) := by decide +kernel
theorem d10_Rea_init_15 : decode prog_9_method_1_code 15 = .ok (.putfield 15, 3) := by decide +kernel
theorem d10_Rea_init_18 : decode prog_9_method_1_code 18 = .ok (.aload_n 0, 1) := by decide +kernel
theorem d10_Rea_init_19 : decode prog_9_method_1_code 19 = .ok (.aload_n 2, 1) := by decide +kernel
theorem d10_Rea_init_20 : decode prog_9_method_1_code 20 = .ok (.putfield 19, 3) := by decide +kernel
theorem d10_Rea_init_23 : decode prog_9_method_1_code 23 = .ok (.aload_n 0, 1) := by decide +kernel
theorem d10_Rea_init_24 : decode prog_9_method_1_code 24 = .ok (.aload_n 3, 1) := by decide +kernel
theorem d10_Rea_init_25 : decode prog_9_method_1_code 25 = .ok (.putfield 23, 3) := by decide +kernel
theorem d10_Rea_init_28 : decode prog_9_method_1_code 28 = .ok (.return_, 1) := by decide +kernel
theorem d10_Age_init_0 : decode prog_2_method_1_code 0 = .ok (.aload_n 0, 1) := by decide +kernel
theorem d10_Age_init_1 : decode prog_2_method_1_code 1 = .ok (.invokespecial 5, 3) := by decide +kernel
theorem d10_Age_init_4 : decode prog_2_method_1_code 4 = .ok (.aload_n 0, 1) := by decide +kernel
theorem d10_Age_init_5 : decode prog_2_method_1_code 5 = .ok (.sipush 4800, 3) := by decide +kernel
theorem d10_Age_init_8 : decode prog_2_method_1_code 8 = .ok (.newarray .int, 2) := by decide +kernel
theorem d10_Age_init_10 : decode prog_2_method_1_code 10 = .ok (.putfield 11, 3) := by decide +kernel
theorem d10_Age_init_13 : decode prog_2_method_1_code 13 = .ok (.aload_n 0, 1) := by decide +kernel
theorem d10_Age_init_14 : decode prog_2_method_1_code 14 = .ok (.iconst 4, 1) := by decide +kernel
theorem d10_Age_init_15 : decode prog_2_method_1_code 15 = .ok (.newarray .int, 2) := by decide +kernel
theorem d10_Age_init_17 : decode prog_2_method_1_code 17 = .ok (.putfield 15, 3) := by decide +kernel
theorem d10_Age_init_20 : decode prog_2_method_1_code 20 = .ok (.aload_n 0, 1) := by decide +kernel
theorem d10_Age_init_21 : decode prog_2_method_1_code 21 = .ok (.iconst 4, 1) := by decide +kernel
theorem d10_Age_init_22 : decode prog_2_method_1_code 22 = .ok (.newarray .int, 2) := by decide +kernel
theorem d10_Age_init_24 : decode prog_2_method_1_code 24 = .ok (.putfield 18, 3) := by decide +kernel
theorem d10_Age_init_27 : decode prog_2_method_1_code 27 = .ok (.aload_n 0, 1) := by decide +kernel
theorem d10_Age_init_28 : decode prog_2_method_1_code 28 = .ok (.iconst 4, 1) := by decide +kernel
theorem d10_Age_init_29 : decode prog_2_method_1_code 29 = .ok (.newarray .int, 2) := by decide +kernel
theorem d10_Age_init_31 : decode prog_2_method_1_code 31 = .ok (.putfield 21, 3) := by decide +kernel
theorem d10_Age_init_34 : decode prog_2_method_1_code 34 = .ok (.aload_n 0, 1) := by decide +kernel
theorem d10_Age_init_35 : decode prog_2_method_1_code 35 = .ok (.sipush 4400, 3) := by decide +kernel
theorem d10_Age_init_38 : decode prog_2_method_1_code 38 = .ok (.newarray .long, 2) := by decide +kernel
theorem d10_Age_init_40 : decode prog_2_method_1_code 40 = .ok (.putfield 24, 3) := by decide +kernel
theorem d10_Age_init_43 : decode prog_2_method_1_code 43 = .ok (.aload_n 0, 1) := by decide +kernel
theorem d10_Age_init_44 : decode prog_2_method_1_code 44 = .ok (.sipush 4400, 3) := by decide +kernel
theorem d10_Age_init_47 : decode prog_2_method_1_code 47 = .ok (.newarray .long, 2) := by decide +kernel
theorem d10_Age_init_49 : decode prog_2_method_1_code 49 = .ok (.putfield 28, 3) := by decide +kernel
theorem d10_Age_init_52 : decode prog_2_method_1_code 52 = .ok (.aload_n 0, 1) := by decide +kernel
theorem d10_Age_init_53 : decode prog_2_method_1_code 53 = .ok (.sipush 4400, 3) := by decide +kernel
theorem d10_Age_init_56 : decode prog_2_method_1_code 56 = .ok (.newarray .int, 2) := by decide +kernel
theorem d10_Age_init_58 : decode prog_2_method_1_code 58 = .ok (.putfield 31, 3) := by decide +kernel
theorem d10_Age_init_61 : decode prog_2_method_1_code 61 = .ok (.aload_n 0, 1) := by decide +kernel
theorem d10_Age_init_62 : decode prog_2_method_1_code 62 = .ok (.sipush 4000, 3) := by decide +kernel
theorem d10_Age_init_65 : decode prog_2_method_1_code 65 = .ok (.newarray .int, 2) := by decide +kernel
theorem d10_Age_init_67 : decode prog_2_method_1_code 67 = .ok (.putfield 34, 3) := by decide +kernel
theorem d10_Age_init_70 : decode prog_2_method_1_code 70 = .ok (.aload_n 0, 1) := by decide +kernel
theorem d10_Age_init_71 : decode prog_2_method_1_code 71 = .ok (.sipush 4000, 3) := by decide +kernel
theorem d10_Age_init_74 : decode prog_2_method_1_code 74 = .ok (.newarray .int, 2) := by decide +kernel
theorem d10_Age_init_76 : decode prog_2_method_1_code 76 = .ok (.putfield 37, 3) := by decide +kernel
theorem d10_Age_init_79 : decode prog_2_method_1_code 79 = .ok (.aload_n 0, 1) := by decide +kernel
theorem d10_Age_init_80 : decode prog_2_method_1_code 80 = .ok (.sipush 4000, 3) := by decide +kernel
theorem d10_Age_init_83 : decode prog_2_method_1_code 83 = .ok (.newarray .int, 2) := by decide +kernel
theorem d10_Age_init_85 : decode prog_2_method_1_code 85 = .ok (.putfield 40, 3) := by decide +kernel
theorem d10_Age_init_88 : decode prog_2_method_1_code 88 = .ok (.aload_n 0, 1) := by decide +kernel
theorem d10_Age_init_89 : decode prog_2_method_1_code 89 = .ok (.sipush 4000, 3) := by decide +kernel
theorem d10_Age_init_92 : decode prog_2_method_1_code 92 = .ok (.newarray .long, 2) := by decide +kernel
theorem d10_Age_init_94 : decode prog_2_method_1_code 94 = .ok (.putfield 43, 3) := by decide +kernel
theorem d10_Age_init_97 : decode prog_2_method_1_code 97 = .ok (.aload_n 0, 1) := by decide +kernel
theorem d10_Age_init_98 : decode prog_2_method_1_code 98 = .ok (.sipush 4000, 3) := by decide +kernel
theorem d10_Age_init_101 : decode prog_2_method_1_code 101 = .ok (.newarray .long, 2) := by decide +kernel
theorem d10_Age_init_103 : decode prog_2_method_1_code 103 = .ok (.putfield 46, 3) := by decide +kernel
theorem d10_Age_init_106 : decode prog_2_method_1_code 106 = .ok (.return_, 1) := by decide +kernel
theorem d10_Boo_init_0 : decode prog_3_method_1_code 0 = .ok (.aload_n 0, 1) := by decide +kernel
theorem d10_Boo_init_1 : decode prog_3_method_1_code 1 = .ok (.invokespecial 3, 3) := by decide +kernel
theorem d10_Boo_init_4 : decode prog_3_method_1_code 4 = .ok (.aload_n 0, 1) := by decide +kernel
theorem d10_Boo_init_5 : decode prog_3_method_1_code 5 = .ok (.ldc 9, 2) := by decide +kernel
theorem d10_Boo_init_7 : decode prog_3_method_1_code 7 = .ok (.newarray .byte, 2) := by decide +kernel
theorem d10_Boo_init_9 : decode prog_3_method_1_code 9 = .ok (.putfield 10, 3) := by decide +kernel
theorem d10_Boo_init_12 : decode prog_3_method_1_code 12 = .ok (.aload_n 0, 1) := by decide +kernel
theorem d10_Boo_init_13 : decode prog_3_method_1_code 13 = .ok (.ldc 9, 2) := by decide +kernel
theorem d10_Boo_init_15 : decode prog_3_method_1_code 15 = .ok (.newarray .byte, 2) := by decide +kernel
theorem d10_Boo_init_17 : decode prog_3_method_1_code 17 = .ok (.putfield 16, 3) := by decide +kernel
theorem d10_Boo_init_20 : decode prog_3_method_1_code 20 = .ok (.aload_n 0, 1) := by decide +kernel
theorem d10_Boo_init_21 : decode prog_3_method_1_code 21 = .ok (.bipush 24, 2) := by decide +kernel
theorem d10_Boo_init_23 : decode prog_3_method_1_code 23 = .ok (.newarray .int, 2) := by decide +kernel
theorem d10_Boo_init_25 : decode prog_3_method_1_code 25 = .ok (.putfield 19, 3) := by decide +kernel
theorem d10_Boo_init_28 : decode prog_3_method_1_code 28 = .ok (.aload_n 0, 1) := by decide +kernel
theorem d10_Boo_init_29 : decode prog_3_method_1_code 29 = .ok (.aload_n 1, 1) := by decide +kernel
theorem d10_Boo_init_30 : decode prog_3_method_1_code 30 = .ok (.putfield 23, 3) := by decide +kernel
theorem d10_Boo_init_33 : decode prog_3_method_1_code 33 = .ok (.return_, 1) := by decide +kernel
theorem d10_Sta_init_0 : decode prog_11_method_1_code 0 = .ok (.aload_n 0, 1) := by decide +kernel
theorem d10_Sta_init_1 : decode prog_11_method_1_code 1 = .ok (.invokespecial 3, 3) := by decide +kernel
theorem d10_Sta_init_4 : decode prog_11_method_1_code 4 = .ok (.aload_n 0, 1) := by decide +kernel
theorem d10_Sta_init_5 : decode prog_11_method_1_code 5 = .ok (.sipush 400, 3) := by decide +kernel
theorem d10_Sta_init_8 : decode prog_11_method_1_code 8 = .ok (.newarray .int, 2) := by decide +kernel
theorem d10_Sta_init_10 : decode prog_11_method_1_code 10 = .ok (.putfield 9, 3) := by decide +kernel
theorem d10_Sta_init_13 : decode prog_11_method_1_code 13 = .ok (.aload_n 0, 1) := by decide +kernel
theorem d10_Sta_init_14 : decode prog_11_method_1_code 14 = .ok (.sipush 400, 3) := by decide +kernel
theorem d10_Sta_init_17 : decode prog_11_method_1_code 17 = .ok (.newarray .long, 2) := by decide +kernel
theorem d10_Sta_init_19 : decode prog_11_method_1_code 19 = .ok (.putfield 15, 3) := by decide +kernel
theorem d10_Sta_init_22 : decode prog_11_method_1_code 22 = .ok (.aload_n 0, 1) := by decide +kernel
theorem d10_Sta_init_23 : decode prog_11_method_1_code 23 = .ok (.sipush 400, 3) := by decide +kernel
theorem d10_Sta_init_26 : decode prog_11_method_1_code 26 = .ok (.newarray .long, 2) := by decide +kernel
theorem d10_Sta_init_28 : decode prog_11_method_1_code 28 = .ok (.putfield 19, 3) := by decide +kernel
theorem d10_Sta_init_31 : decode prog_11_method_1_code 31 = .ok (.aload_n 0, 1) := by decide +kernel
theorem d10_Sta_init_32 : decode prog_11_method_1_code 32 = .ok (.sipush 400, 3) := by decide +kernel
theorem d10_Sta_init_35 : decode prog_11_method_1_code 35 = .ok (.newarray .int, 2) := by decide +kernel
theorem d10_Sta_init_37 : decode prog_11_method_1_code 37 = .ok (.putfield 22, 3) := by decide +kernel
theorem d10_Sta_init_40 : decode prog_11_method_1_code 40 = .ok (.aload_n 0, 1) := by decide +kernel
theorem d10_Sta_init_41 : decode prog_11_method_1_code 41 = .ok (.sipush 2800, 3) := by decide +kernel
theorem d10_Sta_init_44 : decode prog_11_method_1_code 44 = .ok (.newarray .long, 2) := by decide +kernel
theorem d10_Sta_init_46 : decode prog_11_method_1_code 46 = .ok (.putfield 25, 3) := by decide +kernel
theorem d10_Sta_init_49 : decode prog_11_method_1_code 49 = .ok (.aload_n 0, 1) := by decide +kernel
theorem d10_Sta_init_50 : decode prog_11_method_1_code 50 = .ok (.sipush 400, 3) := by decide +kernel
theorem d10_Sta_init_53 : decode prog_11_method_1_code 53 = .ok (.newarray .int, 2) := by decide +kernel
theorem d10_Sta_init_55 : decode prog_11_method_1_code 55 = .ok (.putfield 28, 3) := by decide +kernel
theorem d10_Sta_init_58 : decode prog_11_method_1_code 58 = .ok (.aload_n 0, 1) := by decide +kernel
theorem d10_Sta_init_59 : decode prog_11_method_1_code 59 = .ok (.sipush 8000, 3) := by decide +kernel
theorem d10_Sta_init_62 : decode prog_11_method_1_code 62 = .ok (.newarray .long, 2) := by decide +kernel
theorem d10_Sta_init_64 : decode prog_11_method_1_code 64 = .ok (.putfield 33, 3) := by decide +kernel
theorem d10_Sta_init_67 : decode prog_11_method_1_code 67 = .ok (.aload_n 0, 1) := by decide +kernel
theorem d10_Sta_init_68 : decode prog_11_method_1_code 68 = .ok (.aload_n 1, 1) := by decide +kernel
theorem d10_Sta_init_69 : decode prog_11_method_1_code 69 = .ok (.putfield 36, 3) := by decide +kernel
theorem d10_Sta_init_72 : decode prog_11_method_1_code 72 = .ok (.aload_n 0, 1) := by decide +kernel
theorem d10_Sta_init_73 : decode prog_11_method_1_code 73 = .ok (.aload_n 2, 1) := by decide +kernel
theorem d10_Sta_init_74 : decode prog_11_method_1_code 74 = .ok (.putfield 40, 3) := by decide +kernel
theorem d10_Sta_init_77 : decode prog_11_method_1_code 77 = .ok (.aload_n 0, 1) := by decide +kernel
theorem d10_Sta_init_78 : decode prog_11_method_1_code 78 = .ok (.aload_n 3, 1) := by decide +kernel
theorem d10_Sta_init_79 : decode prog_11_method_1_code 79 = .ok (.putfield 44, 3) := by decide +kernel
theorem d10_Sta_init_82 : decode prog_11_method_1_code 82 = .ok (.return_, 1) := by decide +kernel
set_option maxHeartbeats 4000000 in
set_option maxRecDepth 100000 in
/-- Signal(): the fields stay -/
theorem c_Sig_init (l : Launch) (D : va_G) (h0 : Nat) : q_Met l ⟨"SignalTheatre$Signal", "<init>", "()V"⟩ (Cond.code ⟨"SignalTheatre$Signal", "<init>", "()V"⟩ prog_10_method_1_code 1 none) { frames := 1, cells := 0, slots := 0, locals := 12 } D q_cl [.ref h0] [(h0, .inr (8, [.int 0, .int 0, .int 0, .int 0, .int 0, .int 0, .int 0, .int 0, .int 0, .int 0, .int 0, .int 0, .int 0]))] [] (fun r w ty => r = .inl none ∧ w = [(h0, .inr (8, [.int 0, .int 0, .int 0, .int 0, .int 0, .int 0, .int 0, .int 0, .int 0, .int 0, .int 0, .int 0, .int 0]))] ∧ ty = []) := by
  refine q_ofW (by decide) ?_
  intro p e s m below meth c C hr hin hex I
  have hx := C.1
  have hb := C.2.1
  have hl := lv_entry ([.ref h0]) (n := 1) (Nat.le_of_ble_eq_true rfl)
  rw [lg_entry_eq]
  generalize (lg_sl ([.ref h0]) ++ List.replicate (1 - (lg_sl ([.ref h0])).length) Slot.unset).toArray = ls at hl ⊢
  have hl : lv_has ls 1 [(0, .ref h0)] := hl
  refine lv_aload_n hx hb d10_Sig_init_0 rfl (lv_at hl 0 rfl) ?_
  refine q_obj C m10_0 m10_1 m10_2 hl.1 d10_Sig_init_1 (Nat.le_of_ble_eq_true rfl) (Nat.le_of_ble_eq_true rfl) ?_
  exact q_vret C hr I ⟨rfl, rfl, rfl⟩ (Nat.le_of_ble_eq_true rfl) (Nat.le_of_ble_eq_true rfl) d10_Sig_init_4
set_option maxHeartbeats 4000000 in
set_option maxRecDepth 100000 in
/-- Worth() -/
theorem c_Wor_init (l : Launch) (D : va_G) (h0 : Nat) : q_Met l ⟨"SignalTheatre$Worth", "<init>", "()V"⟩ (Cond.code ⟨"SignalTheatre$Worth", "<init>", "()V"⟩ prog_13_method_1_code 1 none) { frames := 1, cells := 2, slots := 2048, locals := 12 } D q_cl [.ref h0] [(h0, .inr (4, [.null, .null, .int 0, .null, .null, .long 0, .long 0, .long 0]))] [] (fun r w ty => ∃ (q1 : Nat) (q2 : Nat), r = .inl none ∧ w = [(h0, .inr (4, [.ref q1, .ref q2, .int 0, .null, .null, .long 0, .long 0, .long 0]))] ∧ ty = []) := by
  refine q_ofW (by decide) ?_
  intro p e s m below meth c C hr hin hex I
  have hx := C.1
  have hb := C.2.1
  have hl := lv_entry ([.ref h0]) (n := 1) (Nat.le_of_ble_eq_true rfl)
  rw [lg_entry_eq]
  generalize (lg_sl ([.ref h0]) ++ List.replicate (1 - (lg_sl ([.ref h0])).length) Slot.unset).toArray = ls at hl ⊢
  have hl : lv_has ls 1 [(0, .ref h0)] := hl
  refine lv_aload_n hx hb d10_Wor_init_0 rfl (lv_at hl 0 rfl) ?_
  refine q_obj C m10_3 m10_1 m10_2 hl.1 d10_Wor_init_1 (Nat.le_of_ble_eq_true rfl) (Nat.le_of_ble_eq_true rfl) ?_
  refine lv_aload_n hx hb d10_Wor_init_4 rfl (lv_at hl 0 rfl) ?_
  refine lv_sipush (v := 1024) hx hb d10_Wor_init_5 (by decide) ?_
  refine q_arrF (atype := .long) (1024, .inr (.inl (fun _ => 0))) t_Wor t_Wor_ok n_Wor C hin I 0 0 rfl rfl i_Wor (by decide) m10_4 rfl rfl rfl (Nat.le_of_ble_eq_true rfl) rfl m10_5 (fun _ => rfl) (by decide) (by decide) (by decide) (Nat.le_of_ble_eq_true rfl) (Nat.le_of_ble_eq_true rfl) d10_Wor_init_8 d10_Wor_init_10 (fun q1 H locs I => ?_)
  have I : q_I D q_cl _ s [(h0, .inr (4, [.ref q1, .null, .int 0, .null, .null, .long 0, .long 0, .long 0]))] [] H _ := I
  refine lv_aload_n hx hb d10_Wor_init_13 rfl (lv_at hl 0 rfl) ?_
  refine lv_sipush (v := 1024) hx hb d10_Wor_init_14 (by decide) ?_
  refine q_arrF (atype := .long) (1024, .inr (.inl (fun _ => 0))) t_Wor t_Wor_ok n_Wor C hin I 0 1 rfl rfl i_Wor (by decide) m10_6 rfl rfl rfl (Nat.le_of_ble_eq_true rfl) rfl m10_5 (fun _ => rfl) (by decide) (by decide) (by decide) (Nat.le_of_ble_eq_true rfl) (Nat.le_of_ble_eq_true rfl) d10_Wor_init_17 d10_Wor_init_19 (fun q2 H locs I => ?_)
  have I : q_I D q_cl _ s [(h0, .inr (4, [.ref q1, .ref q2, .int 0, .null, .null, .long 0, .long 0, .long 0]))] [] H _ := I
  exact q_vret C hr I ⟨q1, q2, rfl, rfl, rfl⟩ (Nat.le_of_ble_eq_true rfl) (Nat.le_of_ble_eq_true rfl) d10_Wor_init_22
set_option maxHeartbeats 4000000 in
set_option maxRecDepth 100000 in
/-- Code(): its rows -/
theorem c_Cod_init (l : Launch) (D : va_G) (h0 : Nat) : q_Met l ⟨"SignalTheatre$Code", "<init>", "()V"⟩ (Cond.code ⟨"SignalTheatre$Code", "<init>", "()V"⟩ prog_6_method_1_code 1 none) { frames := 1, cells := 15, slots := 540000, locals := 12 } D q_cl [.ref h0] [(h0, .inr (7, [.null, .null, .null, .null, .null, .int 0, .null, .null, .int 0, .null, .null, .null, .null, .null, .null, .null, .int 0, .null, .int 0, .int 0]))] [] (fun r w ty => ∃ (q1 : Nat) (q2 : Nat) (q3 : Nat) (q4 : Nat) (q5 : Nat) (q6 : Nat) (q7 : Nat) (q8 : Nat) (q9 : Nat) (q10 : Nat) (q11 : Nat) (q12 : Nat) (q13 : Nat) (q14 : Nat) (q15 : Nat), r = .inl none ∧ w = [(h0, .inr (7, [.ref q1, .ref q2, .ref q3, .ref q4, .ref q5, .int 0, .ref q6, .ref q7, .int 0, .ref q8, .ref q9, .ref q10, .ref q11, .ref q12, .ref q13, .ref q14, .int 0, .ref q15, .int 0, .int 0]))] ∧ ty = []) := by
  refine q_ofW (by decide) ?_
  intro p e s m below meth c C hr hin hex I
  have hx := C.1
  have hb := C.2.1
  have hl := lv_entry ([.ref h0]) (n := 1) (Nat.le_of_ble_eq_true rfl)
  rw [lg_entry_eq]
  generalize (lg_sl ([.ref h0]) ++ List.replicate (1 - (lg_sl ([.ref h0])).length) Slot.unset).toArray = ls at hl ⊢
  have hl : lv_has ls 1 [(0, .ref h0)] := hl
  refine lv_aload_n hx hb d10_Cod_init_0 rfl (lv_at hl 0 rfl) ?_
  refine q_obj C m10_7 m10_1 m10_2 hl.1 d10_Cod_init_1 (Nat.le_of_ble_eq_true rfl) (Nat.le_of_ble_eq_true rfl) ?_
  refine lv_aload_n hx hb d10_Cod_init_4 rfl (lv_at hl 0 rfl) ?_
  refine lv_ldc hx hb C.2.2.2.1 (C.2.2.2.2.1 _ m10_8) d10_Cod_init_5 ?_
  refine q_arrF (atype := .int) (40000, .inl (fun _ => 0)) t_Cod t_Cod_ok n_Cod C hin I 0 0 rfl rfl i_Cod (by decide) m10_9 rfl rfl rfl (Nat.le_of_ble_eq_true rfl) rfl m10_10 (fun _ => rfl) (by decide) (by decide) (by decide) (Nat.le_of_ble_eq_true rfl) (Nat.le_of_ble_eq_true rfl) d10_Cod_init_7 d10_Cod_init_9 (fun q1 H locs I => ?_)
  have I : q_I D q_cl _ s [(h0, .inr (7, [.ref q1, .null, .null, .null, .null, .int 0, .null, .null, .int 0, .null, .null, .null, .null, .null, .null, .null, .int 0, .null, .int 0, .int 0]))] [] H _ := I
  refine lv_aload_n hx hb d10_Cod_init_12 rfl (lv_at hl 0 rfl) ?_
  refine lv_ldc hx hb C.2.2.2.1 (C.2.2.2.2.1 _ m10_8) d10_Cod_init_13 ?_
  refine q_arrF (atype := .int) (40000, .inl (fun _ => 0)) t_Cod t_Cod_ok n_Cod C hin I 0 1 rfl rfl i_Cod (by decide) m10_11 rfl rfl rfl (Nat.le_of_ble_eq_true rfl) rfl m10_10 (fun _ => rfl) (by decide) (by decide) (by decide) (Nat.le_of_ble_eq_true rfl) (Nat.le_of_ble_eq_true rfl) d10_Cod_init_15 d10_Cod_init_17 (fun q2 H locs I => ?_)
  have I : q_I D q_cl _ s [(h0, .inr (7, [.ref q1, .ref q2, .null, .null, .null, .int 0, .null, .null, .int 0, .null, .null, .null, .null, .null, .null, .null, .int 0, .null, .int 0, .int 0]))] [] H _ := I
  refine lv_aload_n hx hb d10_Cod_init_20 rfl (lv_at hl 0 rfl) ?_
  refine lv_ldc hx hb C.2.2.2.1 (C.2.2.2.2.1 _ m10_8) d10_Cod_init_21 ?_
  refine q_arrF (atype := .int) (40000, .inl (fun _ => 0)) t_Cod t_Cod_ok n_Cod C hin I 0 2 rfl rfl i_Cod (by decide) m10_12 rfl rfl rfl (Nat.le_of_ble_eq_true rfl) rfl m10_10 (fun _ => rfl) (by decide) (by decide) (by decide) (Nat.le_of_ble_eq_true rfl) (Nat.le_of_ble_eq_true rfl) d10_Cod_init_23 d10_Cod_init_25 (fun q3 H locs I => ?_)
  have I : q_I D q_cl _ s [(h0, .inr (7, [.ref q1, .ref q2, .ref q3, .null, .null, .int 0, .null, .null, .int 0, .null, .null, .null, .null, .null, .null, .null, .int 0, .null, .int 0, .int 0]))] [] H _ := I
  refine lv_aload_n hx hb d10_Cod_init_28 rfl (lv_at hl 0 rfl) ?_
  refine lv_ldc hx hb C.2.2.2.1 (C.2.2.2.2.1 _ m10_8) d10_Cod_init_29 ?_
  refine q_arrF (atype := .int) (40000, .inl (fun _ => 0)) t_Cod t_Cod_ok n_Cod C hin I 0 3 rfl rfl i_Cod (by decide) m10_13 rfl rfl rfl (Nat.le_of_ble_eq_true rfl) rfl m10_10 (fun _ => rfl) (by decide) (by decide) (by decide) (Nat.le_of_ble_eq_true rfl) (Nat.le_of_ble_eq_true rfl) d10_Cod_init_31 d10_Cod_init_33 (fun q4 H locs I => ?_)
  have I : q_I D q_cl _ s [(h0, .inr (7, [.ref q1, .ref q2, .ref q3, .ref q4, .null, .int 0, .null, .null, .int 0, .null, .null, .null, .null, .null, .null, .null, .int 0, .null, .int 0, .int 0]))] [] H _ := I
  refine lv_aload_n hx hb d10_Cod_init_36 rfl (lv_at hl 0 rfl) ?_
  refine lv_ldc hx hb C.2.2.2.1 (C.2.2.2.2.1 _ m10_8) d10_Cod_init_37 ?_
  refine q_arrF (atype := .int) (40000, .inl (fun _ => 0)) t_Cod t_Cod_ok n_Cod C hin I 0 4 rfl rfl i_Cod (by decide) m10_14 rfl rfl rfl (Nat.le_of_ble_eq_true rfl) rfl m10_10 (fun _ => rfl) (by decide) (by decide) (by decide) (Nat.le_of_ble_eq_true rfl) (Nat.le_of_ble_eq_true rfl) d10_Cod_init_39 d10_Cod_init_41 (fun q5 H locs I => ?_)
  have I : q_I D q_cl _ s [(h0, .inr (7, [.ref q1, .ref q2, .ref q3, .ref q4, .ref q5, .int 0, .null, .null, .int 0, .null, .null, .null, .null, .null, .null, .null, .int 0, .null, .int 0, .int 0]))] [] H _ := I
  refine lv_aload_n hx hb d10_Cod_init_44 rfl (lv_at hl 0 rfl) ?_
  refine lv_sipush (v := 20000) hx hb d10_Cod_init_45 (by decide) ?_
  refine q_arrF (atype := .long) (20000, .inr (.inl (fun _ => 0))) t_Cod t_Cod_ok n_Cod C hin I 0 6 rfl rfl i_Cod (by decide) m10_15 rfl rfl rfl (Nat.le_of_ble_eq_true rfl) rfl m10_5 (fun _ => rfl) (by decide) (by decide) (by decide) (Nat.le_of_ble_eq_true rfl) (Nat.le_of_ble_eq_true rfl) d10_Cod_init_48 d10_Cod_init_50 (fun q6 H locs I => ?_)
  have I : q_I D q_cl _ s [(h0, .inr (7, [.ref q1, .ref q2, .ref q3, .ref q4, .ref q5, .int 0, .ref q6, .null, .int 0, .null, .null, .null, .null, .null, .null, .null, .int 0, .null, .int 0, .int 0]))] [] H _ := I
  refine lv_aload_n hx hb d10_Cod_init_53 rfl (lv_at hl 0 rfl) ?_
  refine lv_sipush (v := 20000) hx hb d10_Cod_init_54 (by decide) ?_
  refine q_arrF (atype := .long) (20000, .inr (.inl (fun _ => 0))) t_Cod t_Cod_ok n_Cod C hin I 0 7 rfl rfl i_Cod (by decide) m10_16 rfl rfl rfl (Nat.le_of_ble_eq_true rfl) rfl m10_5 (fun _ => rfl) (by decide) (by decide) (by decide) (Nat.le_of_ble_eq_true rfl) (Nat.le_of_ble_eq_true rfl) d10_Cod_init_57 d10_Cod_init_59 (fun q7 H locs I => ?_)
  have I : q_I D q_cl _ s [(h0, .inr (7, [.ref q1, .ref q2, .ref q3, .ref q4, .ref q5, .int 0, .ref q6, .ref q7, .int 0, .null, .null, .null, .null, .null, .null, .null, .int 0, .null, .int 0, .int 0]))] [] H _ := I
  refine lv_aload_n hx hb d10_Cod_init_62 rfl (lv_at hl 0 rfl) ?_
  refine lv_sipush (v := 20000) hx hb d10_Cod_init_63 (by decide) ?_
  refine q_arrF (atype := .int) (20000, .inl (fun _ => 0)) t_Cod t_Cod_ok n_Cod C hin I 0 9 rfl rfl i_Cod (by decide) m10_17 rfl rfl rfl (Nat.le_of_ble_eq_true rfl) rfl m10_10 (fun _ => rfl) (by decide) (by decide) (by decide) (Nat.le_of_ble_eq_true rfl) (Nat.le_of_ble_eq_true rfl) d10_Cod_init_66 d10_Cod_init_68 (fun q8 H locs I => ?_)
  have I : q_I D q_cl _ s [(h0, .inr (7, [.ref q1, .ref q2, .ref q3, .ref q4, .ref q5, .int 0, .ref q6, .ref q7, .int 0, .ref q8, .null, .null, .null, .null, .null, .null, .int 0, .null, .int 0, .int 0]))] [] H _ := I
  refine lv_aload_n hx hb d10_Cod_init_71 rfl (lv_at hl 0 rfl) ?_
  refine lv_sipush (v := 20000) hx hb d10_Cod_init_72 (by decide) ?_
  refine q_arrF (atype := .int) (20000, .inl (fun _ => 0)) t_Cod t_Cod_ok n_Cod C hin I 0 10 rfl rfl i_Cod (by decide) m10_18 rfl rfl rfl (Nat.le_of_ble_eq_true rfl) rfl m10_10 (fun _ => rfl) (by decide) (by decide) (by decide) (Nat.le_of_ble_eq_true rfl) (Nat.le_of_ble_eq_true rfl) d10_Cod_init_75 d10_Cod_init_77 (fun q9 H locs I => ?_)
  have I : q_I D q_cl _ s [(h0, .inr (7, [.ref q1, .ref q2, .ref q3, .ref q4, .ref q5, .int 0, .ref q6, .ref q7, .int 0, .ref q8, .ref q9, .null, .null, .null, .null, .null, .int 0, .null, .int 0, .int 0]))] [] H _ := I
  refine lv_aload_n hx hb d10_Cod_init_80 rfl (lv_at hl 0 rfl) ?_
  refine lv_sipush (v := 20000) hx hb d10_Cod_init_81 (by decide) ?_
  refine q_arrF (atype := .int) (20000, .inl (fun _ => 0)) t_Cod t_Cod_ok n_Cod C hin I 0 11 rfl rfl i_Cod (by decide) m10_19 rfl rfl rfl (Nat.le_of_ble_eq_true rfl) rfl m10_10 (fun _ => rfl) (by decide) (by decide) (by decide) (Nat.le_of_ble_eq_true rfl) (Nat.le_of_ble_eq_true rfl) d10_Cod_init_84 d10_Cod_init_86 (fun q10 H locs I => ?_)
  have I : q_I D q_cl _ s [(h0, .inr (7, [.ref q1, .ref q2, .ref q3, .ref q4, .ref q5, .int 0, .ref q6, .ref q7, .int 0, .ref q8, .ref q9, .ref q10, .null, .null, .null, .null, .int 0, .null, .int 0, .int 0]))] [] H _ := I
  refine lv_aload_n hx hb d10_Cod_init_89 rfl (lv_at hl 0 rfl) ?_
  refine lv_sipush (v := 20000) hx hb d10_Cod_init_90 (by decide) ?_
  refine q_arrF (atype := .int) (20000, .inl (fun _ => 0)) t_Cod t_Cod_ok n_Cod C hin I 0 12 rfl rfl i_Cod (by decide) m10_20 rfl rfl rfl (Nat.le_of_ble_eq_true rfl) rfl m10_10 (fun _ => rfl) (by decide) (by decide) (by decide) (Nat.le_of_ble_eq_true rfl) (Nat.le_of_ble_eq_true rfl) d10_Cod_init_93 d10_Cod_init_95 (fun q11 H locs I => ?_)
  have I : q_I D q_cl _ s [(h0, .inr (7, [.ref q1, .ref q2, .ref q3, .ref q4, .ref q5, .int 0, .ref q6, .ref q7, .int 0, .ref q8, .ref q9, .ref q10, .ref q11, .null, .null, .null, .int 0, .null, .int 0, .int 0]))] [] H _ := I
  refine lv_aload_n hx hb d10_Cod_init_98 rfl (lv_at hl 0 rfl) ?_
  refine lv_sipush (v := 20000) hx hb d10_Cod_init_99 (by decide) ?_
  refine q_arrF (atype := .int) (20000, .inl (fun _ => 0)) t_Cod t_Cod_ok n_Cod C hin I 0 13 rfl rfl i_Cod (by decide) m10_21 rfl rfl rfl (Nat.le_of_ble_eq_true rfl) rfl m10_10 (fun _ => rfl) (by decide) (by decide) (by decide) (Nat.le_of_ble_eq_true rfl) (Nat.le_of_ble_eq_true rfl) d10_Cod_init_102 d10_Cod_init_104 (fun q12 H locs I => ?_)
  have I : q_I D q_cl _ s [(h0, .inr (7, [.ref q1, .ref q2, .ref q3, .ref q4, .ref q5, .int 0, .ref q6, .ref q7, .int 0, .ref q8, .ref q9, .ref q10, .ref q11, .ref q12, .null, .null, .int 0, .null, .int 0, .int 0]))] [] H _ := I
  refine lv_aload_n hx hb d10_Cod_init_107 rfl (lv_at hl 0 rfl) ?_
  refine lv_sipush (v := 20000) hx hb d10_Cod_init_108 (by decide) ?_
  refine q_arrF (atype := .long) (20000, .inr (.inl (fun _ => 0))) t_Cod t_Cod_ok n_Cod C hin I 0 14 rfl rfl i_Cod (by decide) m10_22 rfl rfl rfl (Nat.le_of_ble_eq_true rfl) rfl m10_5 (fun _ => rfl) (by decide) (by decide) (by decide) (Nat.le_of_ble_eq_true rfl) (Nat.le_of_ble_eq_true rfl) d10_Cod_init_111 d10_Cod_init_113 (fun q13 H locs I => ?_)
  have I : q_I D q_cl _ s [(h0, .inr (7, [.ref q1, .ref q2, .ref q3, .ref q4, .ref q5, .int 0, .ref q6, .ref q7, .int 0, .ref q8, .ref q9, .ref q10, .ref q11, .ref q12, .ref q13, .null, .int 0, .null, .int 0, .int 0]))] [] H _ := I
  refine lv_aload_n hx hb d10_Cod_init_116 rfl (lv_at hl 0 rfl) ?_
  refine lv_sipush (v := 20000) hx hb d10_Cod_init_117 (by decide) ?_
  refine q_arrF (atype := .long) (20000, .inr (.inl (fun _ => 0))) t_Cod t_Cod_ok n_Cod C hin I 0 15 rfl rfl i_Cod (by decide) m10_23 rfl rfl rfl (Nat.le_of_ble_eq_true rfl) rfl m10_5 (fun _ => rfl) (by decide) (by decide) (by decide) (Nat.le_of_ble_eq_true rfl) (Nat.le_of_ble_eq_true rfl) d10_Cod_init_120 d10_Cod_init_122 (fun q14 H locs I => ?_)
  have I : q_I D q_cl _ s [(h0, .inr (7, [.ref q1, .ref q2, .ref q3, .ref q4, .ref q5, .int 0, .ref q6, .ref q7, .int 0, .ref q8, .ref q9, .ref q10, .ref q11, .ref q12, .ref q13, .ref q14, .int 0, .null, .int 0, .int 0]))] [] H _ := I
  refine lv_aload_n hx hb d10_Cod_init_125 rfl (lv_at hl 0 rfl) ?_
  refine lv_ldc hx hb C.2.2.2.1 (C.2.2.2.2.1 _ m10_24) d10_Cod_init_126 ?_
  refine q_arrF (atype := .int) (160000, .inl (fun _ => 0)) t_Cod t_Cod_ok n_Cod C hin I 0 17 rfl rfl i_Cod (by decide) m10_25 rfl rfl rfl (Nat.le_of_ble_eq_true rfl) rfl m10_10 (fun _ => rfl) (by decide) (by decide) (by decide) (Nat.le_of_ble_eq_true rfl) (Nat.le_of_ble_eq_true rfl) d10_Cod_init_128 d10_Cod_init_130 (fun q15 H locs I => ?_)
  have I : q_I D q_cl _ s [(h0, .inr (7, [.ref q1, .ref q2, .ref q3, .ref q4, .ref q5, .int 0, .ref q6, .ref q7, .int 0, .ref q8, .ref q9, .ref q10, .ref q11, .ref q12, .ref q13, .ref q14, .int 0, .ref q15, .int 0, .int 0]))] [] H _ := I
  exact q_vret C hr I ⟨q1, q2, q3, q4, q5, q6, q7, q8, q9, q10, q11, q12, q13, q14, q15, rfl, rfl, rfl⟩ (Nat.le_of_ble_eq_true rfl) (Nat.le_of_ble_eq_true rfl) d10_Cod_init_133
set_option maxHeartbeats 4000000 in
set_option maxRecDepth 100000 in
/-- Tokens(): its rows; four of them are looked at later -/
theorem c_Tok_init (l : Launch) (D : va_G) (h0 : Nat) : q_Met l ⟨"SignalTheatre$Tokens", "<init>", "()V"⟩ (Cond.code ⟨"SignalTheatre$Tokens", "<init>", "()V"⟩ prog_12_method_1_code 1 none) { frames := 1, cells := 11, slots := 214026, locals := 12 } D q_cl [.ref h0] [(h0, .inr (1, [.null, .int 0, .null, .null, .null, .int 0, .null, .null, .null, .null, .null, .int 0, .null, .null, .null, .int 0, .long 0, .long 0, .int 0, .int 0]))] [] (fun r w ty => ∃ (q1 : Nat) (q3 : Nat) (q5 : Nat) (q7 : Nat) (q9 : Nat) (q10 : Nat) (q11 : Nat) (q12 : Nat) (q13 : Nat) (q14 : Nat) (q15 : Nat) (cA2 : ClassId) (cA4 : ClassId) (cA6 : ClassId) (cA8 : ClassId), r = .inl none ∧ w = [(h0, .inr (1, [.null, .int 0, .ref q1, .ref q3, .ref q5, .int 0, .ref q7, .ref q9, .ref q10, .ref q11, .ref q12, .int 0, .ref q13, .ref q14, .ref q15, .int 0, .long 0, .long 0, .int 0, .int 0])), (q1, .inl (cA2, 32769, .inl (fun _ => 0))), (q3, .inl (cA4, 32769, .inl (fun _ => 0))), (q5, .inl (cA6, 32769, .inl (fun _ => 0))), (q7, .inl (cA8, 1024, .inl (fun _ => 0)))] ∧ ty = [(cA2, .int), (cA4, .int), (cA6, .int), (cA8, .int)]) := by
  refine q_ofW (by decide) ?_
  intro p e s m below meth c C hr hin hex I
  have hx := C.1
  have hb := C.2.1
  have hl := lv_entry ([.ref h0]) (n := 1) (Nat.le_of_ble_eq_true rfl)
  rw [lg_entry_eq]
  generalize (lg_sl ([.ref h0]) ++ List.replicate (1 - (lg_sl ([.ref h0])).length) Slot.unset).toArray = ls at hl ⊢
  have hl : lv_has ls 1 [(0, .ref h0)] := hl
  refine lv_aload_n hx hb d10_Tok_init_0 rfl (lv_at hl 0 rfl) ?_
  refine q_obj C m10_26 m10_1 m10_2 hl.1 d10_Tok_init_1 (Nat.le_of_ble_eq_true rfl) (Nat.le_of_ble_eq_true rfl) ?_
  refine lv_aload_n hx hb d10_Tok_init_4 rfl (lv_at hl 0 rfl) ?_
  refine lv_ldc hx hb C.2.2.2.1 (C.2.2.2.2.1 _ m10_27) d10_Tok_init_5 ?_
  refine q_newa (atype := .int) (32769, .inl (fun _ => 0)) C I rfl m10_10 (fun _ => rfl) (by decide) (by decide) (by decide) (Nat.le_of_ble_eq_true rfl) (Nat.le_of_ble_eq_true rfl) d10_Tok_init_7 (fun q1 cA2 H I => ?_)
  have I : q_I D q_cl _ s [(h0, .inr (1, [.null, .int 0, .null, .null, .null, .int 0, .null, .null, .null, .null, .null, .int 0, .null, .null, .null, .int 0, .long 0, .long 0, .int 0, .int 0])), (q1, .inl (cA2, 32769, .inl (fun _ => 0)))] [(cA2, .int)] H _ := I
  refine q_putF t_Tok t_Tok_ok n_Tok C hin I 0 2 rfl rfl i_Tok (by decide) m10_28 rfl rfl rfl rfl (Nat.le_of_ble_eq_true rfl) d10_Tok_init_9 (fun H locs I => ?_)
  have I : q_I D q_cl _ s [(h0, .inr (1, [.null, .int 0, .ref q1, .null, .null, .int 0, .null, .null, .null, .null, .null, .int 0, .null, .null, .null, .int 0, .long 0, .long 0, .int 0, .int 0])), (q1, .inl (cA2, 32769, .inl (fun _ => 0)))] [(cA2, .int)] H _ := I
  refine lv_aload_n hx hb d10_Tok_init_12 rfl (lv_at hl 0 rfl) ?_
  refine lv_ldc hx hb C.2.2.2.1 (C.2.2.2.2.1 _ m10_27) d10_Tok_init_13 ?_
  refine q_newa (atype := .int) (32769, .inl (fun _ => 0)) C I rfl m10_10 (fun _ => rfl) (by decide) (by decide) (by decide) (Nat.le_of_ble_eq_true rfl) (Nat.le_of_ble_eq_true rfl) d10_Tok_init_15 (fun q3 cA4 H I => ?_)
  have I : q_I D q_cl _ s [(h0, .inr (1, [.null, .int 0, .ref q1, .null, .null, .int 0, .null, .null, .null, .null, .null, .int 0, .null, .null, .null, .int 0, .long 0, .long 0, .int 0, .int 0])), (q1, .inl (cA2, 32769, .inl (fun _ => 0))), (q3, .inl (cA4, 32769, .inl (fun _ => 0)))] [(cA2, .int), (cA4, .int)] H _ := I
  refine q_putF t_Tok t_Tok_ok n_Tok C hin I 0 3 rfl rfl i_Tok (by decide) m10_29 rfl rfl rfl rfl (Nat.le_of_ble_eq_true rfl) d10_Tok_init_17 (fun H locs I => ?_)
  have I : q_I D q_cl _ s [(h0, .inr (1, [.null, .int 0, .ref q1, .ref q3, .null, .int 0, .null, .null, .null, .null, .null, .int 0, .null, .null, .null, .int 0, .long 0, .long 0, .int 0, .int 0])), (q1, .inl (cA2, 32769, .inl (fun _ => 0))), (q3, .inl (cA4, 32769, .inl (fun _ => 0)))] [(cA2, .int), (cA4, .int)] H _ := I
  refine lv_aload_n hx hb d10_Tok_init_20 rfl (lv_at hl 0 rfl) ?_
  refine lv_ldc hx hb C.2.2.2.1 (C.2.2.2.2.1 _ m10_27) d10_Tok_init_21 ?_
  refine q_newa (atype := .int) (32769, .inl (fun _ => 0)) C I rfl m10_10 (fun _ => rfl) (by decide) (by decide) (by decide) (Nat.le_of_ble_eq_true rfl) (Nat.le_of_ble_eq_true rfl) d10_Tok_init_23 (fun q5 cA6 H I => ?_)
  have I : q_I D q_cl _ s [(h0, .inr (1, [.null, .int 0, .ref q1, .ref q3, .null, .int 0, .null, .null, .null, .null, .null, .int 0, .null, .null, .null, .int 0, .long 0, .long 0, .int 0, .int 0])), (q1, .inl (cA2, 32769, .inl (fun _ => 0))), (q3, .inl (cA4, 32769, .inl (fun _ => 0))), (q5, .inl (cA6, 32769, .inl (fun _ => 0)))] [(cA2, .int), (cA4, .int), (cA6, .int)] H _ := I
  refine q_putF t_Tok t_Tok_ok n_Tok C hin I 0 4 rfl rfl i_Tok (by decide) m10_30 rfl rfl rfl rfl (Nat.le_of_ble_eq_true rfl) d10_Tok_init_25 (fun H locs I => ?_)
  have I : q_I D q_cl _ s [(h0, .inr (1, [.null, .int 0, .ref q1, .ref q3, .ref q5, .int 0, .null, .null, .null, .null, .null, .int 0, .null, .null, .null, .int 0, .long 0, .long 0, .int 0, .int 0])), (q1, .inl (cA2, 32769, .inl (fun _ => 0))), (q3, .inl (cA4, 32769, .inl (fun _ => 0))), (q5, .inl (cA6, 32769, .inl (fun _ => 0)))] [(cA2, .int), (cA4, .int), (cA6, .int)] H _ := I
  refine lv_aload_n hx hb d10_Tok_init_28 rfl (lv_at hl 0 rfl) ?_
  refine lv_sipush (v := 1024) hx hb d10_Tok_init_29 (by decide) ?_
  refine q_newa (atype := .int) (1024, .inl (fun _ => 0)) C I rfl m10_10 (fun _ => rfl) (by decide) (by decide) (by decide) (Nat.le_of_ble_eq_true rfl) (Nat.le_of_ble_eq_true rfl) d10_Tok_init_32 (fun q7 cA8 H I => ?_)
  have I : q_I D q_cl _ s [(h0, .inr (1, [.null, .int 0, .ref q1, .ref q3, .ref q5, .int 0, .null, .null, .null, .null, .null, .int 0, .null, .null, .null, .int 0, .long 0, .long 0, .int 0, .int 0])), (q1, .inl (cA2, 32769, .inl (fun _ => 0))), (q3, .inl (cA4, 32769, .inl (fun _ => 0))), (q5, .inl (cA6, 32769, .inl (fun _ => 0))), (q7, .inl (cA8, 1024, .inl (fun _ => 0)))] [(cA2, .int), (cA4, .int), (cA6, .int), (cA8, .int)] H _ := I
  refine q_putF t_Tok t_Tok_ok n_Tok C hin I 0 6 rfl rfl i_Tok (by decide) m10_31 rfl rfl rfl rfl (Nat.le_of_ble_eq_true rfl) d10_Tok_init_34 (fun H locs I => ?_)
  have I : q_I D q_cl _ s [(h0, .inr (1, [.null, .int 0, .ref q1, .ref q3, .ref q5, .int 0, .ref q7, .null, .null, .null, .null, .int 0, .null, .null, .null, .int 0, .long 0, .long 0, .int 0, .int 0])), (q1, .inl (cA2, 32769, .inl (fun _ => 0))), (q3, .inl (cA4, 32769, .inl (fun _ => 0))), (q5, .inl (cA6, 32769, .inl (fun _ => 0))), (q7, .inl (cA8, 1024, .inl (fun _ => 0)))] [(cA2, .int), (cA4, .int), (cA6, .int), (cA8, .int)] H _ := I
  refine lv_aload_n hx hb d10_Tok_init_37 rfl (lv_at hl 0 rfl) ?_
  refine lv_sipush (v := 16385) hx hb d10_Tok_init_38 (by decide) ?_
  refine q_arrF (atype := .int) (16385, .inl (fun _ => 0)) t_Tok t_Tok_ok n_Tok C hin I 0 7 rfl rfl i_Tok (by decide) m10_32 rfl rfl rfl (Nat.le_of_ble_eq_true rfl) rfl m10_10 (fun _ => rfl) (by decide) (by decide) (by decide) (Nat.le_of_ble_eq_true rfl) (Nat.le_of_ble_eq_true rfl) d10_Tok_init_41 d10_Tok_init_43 (fun q9 H locs I => ?_)
  have I : q_I D q_cl _ s [(h0, .inr (1, [.null, .int 0, .ref q1, .ref q3, .ref q5, .int 0, .ref q7, .ref q9, .null, .null, .null, .int 0, .null, .null, .null, .int 0, .long 0, .long 0, .int 0, .int 0])), (q1, .inl (cA2, 32769, .inl (fun _ => 0))), (q3, .inl (cA4, 32769, .inl (fun _ => 0))), (q5, .inl (cA6, 32769, .inl (fun _ => 0))), (q7, .inl (cA8, 1024, .inl (fun _ => 0)))] [(cA2, .int), (cA4, .int), (cA6, .int), (cA8, .int)] H _ := I
  refine lv_aload_n hx hb d10_Tok_init_46 rfl (lv_at hl 0 rfl) ?_
  refine lv_sipush (v := 16385) hx hb d10_Tok_init_47 (by decide) ?_
  refine q_arrF (atype := .int) (16385, .inl (fun _ => 0)) t_Tok t_Tok_ok n_Tok C hin I 0 8 rfl rfl i_Tok (by decide) m10_33 rfl rfl rfl (Nat.le_of_ble_eq_true rfl) rfl m10_10 (fun _ => rfl) (by decide) (by decide) (by decide) (Nat.le_of_ble_eq_true rfl) (Nat.le_of_ble_eq_true rfl) d10_Tok_init_50 d10_Tok_init_52 (fun q10 H locs I => ?_)
  have I : q_I D q_cl _ s [(h0, .inr (1, [.null, .int 0, .ref q1, .ref q3, .ref q5, .int 0, .ref q7, .ref q9, .ref q10, .null, .null, .int 0, .null, .null, .null, .int 0, .long 0, .long 0, .int 0, .int 0])), (q1, .inl (cA2, 32769, .inl (fun _ => 0))), (q3, .inl (cA4, 32769, .inl (fun _ => 0))), (q5, .inl (cA6, 32769, .inl (fun _ => 0))), (q7, .inl (cA8, 1024, .inl (fun _ => 0)))] [(cA2, .int), (cA4, .int), (cA6, .int), (cA8, .int)] H _ := I
  refine lv_aload_n hx hb d10_Tok_init_55 rfl (lv_at hl 0 rfl) ?_
  refine lv_sipush (v := 16385) hx hb d10_Tok_init_56 (by decide) ?_
  refine q_arrF (atype := .int) (16385, .inl (fun _ => 0)) t_Tok t_Tok_ok n_Tok C hin I 0 9 rfl rfl i_Tok (by decide) m10_34 rfl rfl rfl (Nat.le_of_ble_eq_true rfl) rfl m10_10 (fun _ => rfl) (by decide) (by decide) (by decide) (Nat.le_of_ble_eq_true rfl) (Nat.le_of_ble_eq_true rfl) d10_Tok_init_59 d10_Tok_init_61 (fun q11 H locs I => ?_)
  have I : q_I D q_cl _ s [(h0, .inr (1, [.null, .int 0, .ref q1, .ref q3, .ref q5, .int 0, .ref q7, .ref q9, .ref q10, .ref q11, .null, .int 0, .null, .null, .null, .int 0, .long 0, .long 0, .int 0, .int 0])), (q1, .inl (cA2, 32769, .inl (fun _ => 0))), (q3, .inl (cA4, 32769, .inl (fun _ => 0))), (q5, .inl (cA6, 32769, .inl (fun _ => 0))), (q7, .inl (cA8, 1024, .inl (fun _ => 0)))] [(cA2, .int), (cA4, .int), (cA6, .int), (cA8, .int)] H _ := I
  refine lv_aload_n hx hb d10_Tok_init_64 rfl (lv_at hl 0 rfl) ?_
  refine lv_sipush (v := 16385) hx hb d10_Tok_init_65 (by decide) ?_
  refine q_arrF (atype := .int) (16385, .inl (fun _ => 0)) t_Tok t_Tok_ok n_Tok C hin I 0 10 rfl rfl i_Tok (by decide) m10_35 rfl rfl rfl (Nat.le_of_ble_eq_true rfl) rfl m10_10 (fun _ => rfl) (by decide) (by decide) (by decide) (Nat.le_of_ble_eq_true rfl) (Nat.le_of_ble_eq_true rfl) d10_Tok_init_68 d10_Tok_init_70 (fun q12 H locs I => ?_)
  have I : q_I D q_cl _ s [(h0, .inr (1, [.null, .int 0, .ref q1, .ref q3, .ref q5, .int 0, .ref q7, .ref q9, .ref q10, .ref q11, .ref q12, .int 0, .null, .null, .null, .int 0, .long 0, .long 0, .int 0, .int 0])), (q1, .inl (cA2, 32769, .inl (fun _ => 0))), (q3, .inl (cA4, 32769, .inl (fun _ => 0))), (q5, .inl (cA6, 32769, .inl (fun _ => 0))), (q7, .inl (cA8, 1024, .inl (fun _ => 0)))] [(cA2, .int), (cA4, .int), (cA6, .int), (cA8, .int)] H _ := I
  refine lv_aload_n hx hb d10_Tok_init_73 rfl (lv_at hl 0 rfl) ?_
  refine lv_sipush (v := 16385) hx hb d10_Tok_init_74 (by decide) ?_
  refine q_arrF (atype := .long) (16385, .inr (.inl (fun _ => 0))) t_Tok t_Tok_ok n_Tok C hin I 0 12 rfl rfl i_Tok (by decide) m10_36 rfl rfl rfl (Nat.le_of_ble_eq_true rfl) rfl m10_5 (fun _ => rfl) (by decide) (by decide) (by decide) (Nat.le_of_ble_eq_true rfl) (Nat.le_of_ble_eq_true rfl) d10_Tok_init_77 d10_Tok_init_79 (fun q13 H locs I => ?_)
  have I : q_I D q_cl _ s [(h0, .inr (1, [.null, .int 0, .ref q1, .ref q3, .ref q5, .int 0, .ref q7, .ref q9, .ref q10, .ref q11, .ref q12, .int 0, .ref q13, .null, .null, .int 0, .long 0, .long 0, .int 0, .int 0])), (q1, .inl (cA2, 32769, .inl (fun _ => 0))), (q3, .inl (cA4, 32769, .inl (fun _ => 0))), (q5, .inl (cA6, 32769, .inl (fun _ => 0))), (q7, .inl (cA8, 1024, .inl (fun _ => 0)))] [(cA2, .int), (cA4, .int), (cA6, .int), (cA8, .int)] H _ := I
  refine lv_aload_n hx hb d10_Tok_init_82 rfl (lv_at hl 0 rfl) ?_
  refine lv_sipush (v := 16385) hx hb d10_Tok_init_83 (by decide) ?_
  refine q_arrF (atype := .long) (16385, .inr (.inl (fun _ => 0))) t_Tok t_Tok_ok n_Tok C hin I 0 13 rfl rfl i_Tok (by decide) m10_37 rfl rfl rfl (Nat.le_of_ble_eq_true rfl) rfl m10_5 (fun _ => rfl) (by decide) (by decide) (by decide) (Nat.le_of_ble_eq_true rfl) (Nat.le_of_ble_eq_true rfl) d10_Tok_init_86 d10_Tok_init_88 (fun q14 H locs I => ?_)
  have I : q_I D q_cl _ s [(h0, .inr (1, [.null, .int 0, .ref q1, .ref q3, .ref q5, .int 0, .ref q7, .ref q9, .ref q10, .ref q11, .ref q12, .int 0, .ref q13, .ref q14, .null, .int 0, .long 0, .long 0, .int 0, .int 0])), (q1, .inl (cA2, 32769, .inl (fun _ => 0))), (q3, .inl (cA4, 32769, .inl (fun _ => 0))), (q5, .inl (cA6, 32769, .inl (fun _ => 0))), (q7, .inl (cA8, 1024, .inl (fun _ => 0)))] [(cA2, .int), (cA4, .int), (cA6, .int), (cA8, .int)] H _ := I
  refine lv_aload_n hx hb d10_Tok_init_91 rfl (lv_at hl 0 rfl) ?_
  refine lv_sipush (v := 16385) hx hb d10_Tok_init_92 (by decide) ?_
  refine q_arrF (atype := .int) (16385, .inl (fun _ => 0)) t_Tok t_Tok_ok n_Tok C hin I 0 14 rfl rfl i_Tok (by decide) m10_38 rfl rfl rfl (Nat.le_of_ble_eq_true rfl) rfl m10_10 (fun _ => rfl) (by decide) (by decide) (by decide) (Nat.le_of_ble_eq_true rfl) (Nat.le_of_ble_eq_true rfl) d10_Tok_init_95 d10_Tok_init_97 (fun q15 H locs I => ?_)
  have I : q_I D q_cl _ s [(h0, .inr (1, [.null, .int 0, .ref q1, .ref q3, .ref q5, .int 0, .ref q7, .ref q9, .ref q10, .ref q11, .ref q12, .int 0, .ref q13, .ref q14, .ref q15, .int 0, .long 0, .long 0, .int 0, .int 0])), (q1, .inl (cA2, 32769, .inl (fun _ => 0))), (q3, .inl (cA4, 32769, .inl (fun _ => 0))), (q5, .inl (cA6, 32769, .inl (fun _ => 0))), (q7, .inl (cA8, 1024, .inl (fun _ => 0)))] [(cA2, .int), (cA4, .int), (cA6, .int), (cA8, .int)] H _ := I
  exact q_vret C hr I ⟨q1, q3, q5, q7, q9, q10, q11, q12, q13, q14, q15, cA2, cA4, cA6, cA8, rfl, rfl, rfl⟩ (Nat.le_of_ble_eq_true rfl) (Nat.le_of_ble_eq_true rfl) d10_Tok_init_100
set_option maxHeartbeats 4000000 in
set_option maxRecDepth 100000 in
/-- Faults(tokens): no fault yet -/
theorem c_Flt_init (l : Launch) (D : va_G) (h0 : Nat) (p1 : Nat) : q_Met l ⟨"SignalTheatre$Faults", "<init>", "(LSignalTheatre$Tokens;)V"⟩ (Cond.code ⟨"SignalTheatre$Faults", "<init>", "(LSignalTheatre$Tokens;)V"⟩ prog_7_method_1_code 2 none) { frames := 1, cells := 0, slots := 0, locals := 12 } D q_cl [.ref h0, .ref p1] [(h0, .inr (2, [.null, .int 0, .int 0, .int 0, .int 0, .int 0, .int 0]))] [] (fun r w ty => r = .inl none ∧ w = [(h0, .inr (2, [.ref p1, .int 0, .int (-1), .int 0, .int 0, .int 0, .int 0]))] ∧ ty = []) := by
  refine q_ofW (by decide) ?_
  intro p e s m below meth c C hr hin hex I
  have hx := C.1
  have hb := C.2.1
  have hl := lv_entry ([.ref h0, .ref p1]) (n := 2) (Nat.le_of_ble_eq_true rfl)
  rw [lg_entry_eq]
  generalize (lg_sl ([.ref h0, .ref p1]) ++ List.replicate (2 - (lg_sl ([.ref h0, .ref p1])).length) Slot.unset).toArray = ls at hl ⊢
  have hl : lv_has ls 2 [(0, .ref h0), (1, .ref p1)] := hl
  refine lv_aload_n hx hb d10_Flt_init_0 rfl (lv_at hl 0 rfl) ?_
  refine q_obj C m10_39 m10_1 m10_2 hl.1 d10_Flt_init_1 (Nat.le_of_ble_eq_true rfl) (Nat.le_of_ble_eq_true rfl) ?_
  refine lv_aload_n hx hb d10_Flt_init_4 rfl (lv_at hl 0 rfl) ?_
  refine lv_iconst (v := -1) hx hb d10_Flt_init_5 (by decide) ?_
  refine q_put t_Flt t_Flt_ok n_Flt C I 0 2 rfl rfl i_Flt (by decide) m10_40 rfl rfl rfl (Nat.le_of_ble_eq_true rfl) d10_Flt_init_6 (fun H locs I => ?_)
  have I : q_I D q_cl _ s [(h0, .inr (2, [.null, .int 0, .int (-1), .int 0, .int 0, .int 0, .int 0]))] [] H _ := I
  refine lv_aload_n hx hb d10_Flt_init_9 rfl (lv_at hl 0 rfl) ?_
  refine lv_aload_n hx hb d10_Flt_init_10 rfl (lv_at hl 1 rfl) ?_
  refine q_putF t_Flt t_Flt_ok n_Flt C hin I 0 0 rfl rfl i_Flt (by decide) m10_41 rfl rfl rfl rfl (Nat.le_of_ble_eq_true rfl) d10_Flt_init_11 (fun H locs I => ?_)
  have I : q_I D q_cl _ s [(h0, .inr (2, [.ref p1, .int 0, .int (-1), .int 0, .int 0, .int 0, .int 0]))] [] H _ := I
  exact q_vret C hr I ⟨rfl, rfl, rfl⟩ (Nat.le_of_ble_eq_true rfl) (Nat.le_of_ble_eq_true rfl) d10_Flt_init_14
set_option maxHeartbeats 4000000 in
set_option maxRecDepth 100000 in
/-- Maker(..) -/
theorem c_Mak_init (l : Launch) (D : va_G) (h0 : Nat) (p1 : Nat) (p2 : Nat) (p3 : Nat) : q_Met l ⟨"SignalTheatre$Maker", "<init>", "(LSignalTheatre$Tokens;LSignalTheatre$Faults;LSignalTheatre$Worth;)V"⟩ (Cond.code ⟨"SignalTheatre$Maker", "<init>", "(LSignalTheatre$Tokens;LSignalTheatre$Faults;LSignalTheatre$Worth;)V"⟩ prog_8_method_1_code 4 none) { frames := 1, cells := 6, slots := 58885, locals := 12 } D q_cl [.ref h0, .ref p1, .ref p2, .ref p3] [(h0, .inr (3, [.null, .null, .null, .null, .null, .int 0, .int 0, .int 0, .int 0, .int 0, .int 0, .null, .null, .null, .null, .null, .null, .int 0]))] [] (fun r w ty => ∃ (q1 : Nat) (q3 : Nat) (q4 : Nat) (q5 : Nat) (q6 : Nat) (q7 : Nat) (cA2 : ClassId), r = .inl none ∧ w = [(h0, .inr (3, [.ref p1, .ref p2, .ref p3, .null, .null, .int 0, .int 0, .int 0, .int 0, .int 0, .int 0, .ref q1, .ref q3, .ref q4, .ref q5, .ref q6, .ref q7, .int 0])), (q1, .inl (cA2, 16385, .inl (fun _ => 0)))] ∧ ty = [(cA2, .int)]) := by
  refine q_ofW (by decide) ?_
  intro p e s m below meth c C hr hin hex I
  have hx := C.1
  have hb := C.2.1
  have hl := lv_entry ([.ref h0, .ref p1, .ref p2, .ref p3]) (n := 4) (Nat.le_of_ble_eq_true rfl)
  rw [lg_entry_eq]
  generalize (lg_sl ([.ref h0, .ref p1, .ref p2, .ref p3]) ++ List.replicate (4 - (lg_sl ([.ref h0, .ref p1, .ref p2, .ref p3])).length) Slot.unset).toArray = ls at hl ⊢
  have hl : lv_has ls 4 [(0, .ref h0), (1, .ref p1), (2, .ref p2), (3, .ref p3)] := hl
  refine lv_aload_n hx hb d10_Mak_init_0 rfl (lv_at hl 0 rfl) ?_
  refine q_obj C m10_42 m10_1 m10_2 hl.1 d10_Mak_init_1 (Nat.le_of_ble_eq_true rfl) (Nat.le_of_ble_eq_true rfl) ?_
  refine lv_aload_n hx hb d10_Mak_init_4 rfl (lv_at hl 0 rfl) ?_
  refine lv_sipush (v := 16385) hx hb d10_Mak_init_5 (by decide) ?_
  refine q_newa (atype := .int) (16385, .inl (fun _ => 0)) C I rfl m10_10 (fun _ => rfl) (by decide) (by decide) (by decide) (Nat.le_of_ble_eq_true rfl) (Nat.le_of_ble_eq_true rfl) d10_Mak_init_8 (fun q1 cA2 H I => ?_)
  have I : q_I D q_cl _ s [(h0, .inr (3, [.null, .null, .null, .null, .null, .int 0, .int 0, .int 0, .int 0, .int 0, .int 0, .null, .null, .null, .null, .null, .null, .int 0])), (q1, .inl (cA2, 16385, .inl (fun _ => 0)))] [(cA2, .int)] H _ := I
  refine q_putF t_Mak t_Mak_ok n_Mak C hin I 0 11 rfl rfl i_Mak (by decide) m10_43 rfl rfl rfl rfl (Nat.le_of_ble_eq_true rfl) d10_Mak_init_10 (fun H locs I => ?_)
  have I : q_I D q_cl _ s [(h0, .inr (3, [.null, .null, .null, .null, .null, .int 0, .int 0, .int 0, .int 0, .int 0, .int 0, .ref q1, .null, .null, .null, .null, .null, .int 0])), (q1, .inl (cA2, 16385, .inl (fun _ => 0)))] [(cA2, .int)] H _ := I
  refine lv_aload_n hx hb d10_Mak_init_13 rfl (lv_at hl 0 rfl) ?_
  refine lv_sipush (v := 8500) hx hb d10_Mak_init_14 (by decide) ?_
  refine q_arrF (atype := .int) (8500, .inl (fun _ => 0)) t_Mak t_Mak_ok n_Mak C hin I 0 12 rfl rfl i_Mak (by decide) m10_44 rfl rfl rfl (Nat.le_of_ble_eq_true rfl) rfl m10_10 (fun _ => rfl) (by decide) (by decide) (by decide) (Nat.le_of_ble_eq_true rfl) (Nat.le_of_ble_eq_true rfl) d10_Mak_init_17 d10_Mak_init_19 (fun q3 H locs I => ?_)
  have I : q_I D q_cl _ s [(h0, .inr (3, [.null, .null, .null, .null, .null, .int 0, .int 0, .int 0, .int 0, .int 0, .int 0, .ref q1, .ref q3, .null, .null, .null, .null, .int 0])), (q1, .inl (cA2, 16385, .inl (fun _ => 0)))] [(cA2, .int)] H _ := I
  refine lv_aload_n hx hb d10_Mak_init_22 rfl (lv_at hl 0 rfl) ?_
  refine lv_sipush (v := 8500) hx hb d10_Mak_init_23 (by decide) ?_
  refine q_arrF (atype := .int) (8500, .inl (fun _ => 0)) t_Mak t_Mak_ok n_Mak C hin I 0 13 rfl rfl i_Mak (by decide) m10_45 rfl rfl rfl (Nat.le_of_ble_eq_true rfl) rfl m10_10 (fun _ => rfl) (by decide) (by decide) (by decide) (Nat.le_of_ble_eq_true rfl) (Nat.le_of_ble_eq_true rfl) d10_Mak_init_26 d10_Mak_init_28 (fun q4 H locs I => ?_)
  have I : q_I D q_cl _ s [(h0, .inr (3, [.null, .null, .null, .null, .null, .int 0, .int 0, .int 0, .int 0, .int 0, .int 0, .ref q1, .ref q3, .ref q4, .null, .null, .null, .int 0])), (q1, .inl (cA2, 16385, .inl (fun _ => 0)))] [(cA2, .int)] H _ := I
  refine lv_aload_n hx hb d10_Mak_init_31 rfl (lv_at hl 0 rfl) ?_
  refine lv_sipush (v := 8500) hx hb d10_Mak_init_32 (by decide) ?_
  refine q_arrF (atype := .int) (8500, .inl (fun _ => 0)) t_Mak t_Mak_ok n_Mak C hin I 0 14 rfl rfl i_Mak (by decide) m10_46 rfl rfl rfl (Nat.le_of_ble_eq_true rfl) rfl m10_10 (fun _ => rfl) (by decide) (by decide) (by decide) (Nat.le_of_ble_eq_true rfl) (Nat.le_of_ble_eq_true rfl) d10_Mak_init_35 d10_Mak_init_37 (fun q5 H locs I => ?_)
  have I : q_I D q_cl _ s [(h0, .inr (3, [.null, .null, .null, .null, .null, .int 0, .int 0, .int 0, .int 0, .int 0, .int 0, .ref q1, .ref q3, .ref q4, .ref q5, .null, .null, .int 0])), (q1, .inl (cA2, 16385, .inl (fun _ => 0)))] [(cA2, .int)] H _ := I
  refine lv_aload_n hx hb d10_Mak_init_40 rfl (lv_at hl 0 rfl) ?_
  refine lv_sipush (v := 8500) hx hb d10_Mak_init_41 (by decide) ?_
  refine q_arrF (atype := .int) (8500, .inl (fun _ => 0)) t_Mak t_Mak_ok n_Mak C hin I 0 15 rfl rfl i_Mak (by decide) m10_47 rfl rfl rfl (Nat.le_of_ble_eq_true rfl) rfl m10_10 (fun _ => rfl) (by decide) (by decide) (by decide) (Nat.le_of_ble_eq_true rfl) (Nat.le_of_ble_eq_true rfl) d10_Mak_init_44 d10_Mak_init_46 (fun q6 H locs I => ?_)
  have I : q_I D q_cl _ s [(h0, .inr (3, [.null, .null, .null, .null, .null, .int 0, .int 0, .int 0, .int 0, .int 0, .int 0, .ref q1, .ref q3, .ref q4, .ref q5, .ref q6, .null, .int 0])), (q1, .inl (cA2, 16385, .inl (fun _ => 0)))] [(cA2, .int)] H _ := I
  refine lv_aload_n hx hb d10_Mak_init_49 rfl (lv_at hl 0 rfl) ?_
  refine lv_sipush (v := 8500) hx hb d10_Mak_init_50 (by decide) ?_
  refine q_arrF (atype := .int) (8500, .inl (fun _ => 0)) t_Mak t_Mak_ok n_Mak C hin I 0 16 rfl rfl i_Mak (by decide) m10_48 rfl rfl rfl (Nat.le_of_ble_eq_true rfl) rfl m10_10 (fun _ => rfl) (by decide) (by decide) (by decide) (Nat.le_of_ble_eq_true rfl) (Nat.le_of_ble_eq_true rfl) d10_Mak_init_53 d10_Mak_init_55 (fun q7 H locs I => ?_)
  have I : q_I D q_cl _ s [(h0, .inr (3, [.null, .null, .null, .null, .null, .int 0, .int 0, .int 0, .int 0, .int 0, .int 0, .ref q1, .ref q3, .ref q4, .ref q5, .ref q6, .ref q7, .int 0])), (q1, .inl (cA2, 16385, .inl (fun _ => 0)))] [(cA2, .int)] H _ := I
  refine lv_aload_n hx hb d10_Mak_init_58 rfl (lv_at hl 0 rfl) ?_
  refine lv_aload_n hx hb d10_Mak_init_59 rfl (lv_at hl 1 rfl) ?_
  refine q_putF t_Mak t_Mak_ok n_Mak C hin I 0 0 rfl rfl i_Mak (by decide) m10_49 rfl rfl rfl rfl (Nat.le_of_ble_eq_true rfl) d10_Mak_init_60 (fun H locs I => ?_)
  have I : q_I D q_cl _ s [(h0, .inr (3, [.ref p1, .null, .null, .null, .null, .int 0, .int 0, .int 0, .int 0, .int 0, .int 0, .ref q1, .ref q3, .ref q4, .ref q5, .ref q6, .ref q7, .int 0])), (q1, .inl (cA2, 16385, .inl (fun _ => 0)))] [(cA2, .int)] H _ := I
  refine lv_aload_n hx hb d10_Mak_init_63 rfl (lv_at hl 0 rfl) ?_
  refine lv_aload_n hx hb d10_Mak_init_64 rfl (lv_at hl 2 rfl) ?_
  refine q_putF t_Mak t_Mak_ok n_Mak C hin I 0 1 rfl rfl i_Mak (by decide) m10_50 rfl rfl rfl rfl (Nat.le_of_ble_eq_true rfl) d10_Mak_init_65 (fun H locs I => ?_)
  have I : q_I D q_cl _ s [(h0, .inr (3, [.ref p1, .ref p2, .null, .null, .null, .int 0, .int 0, .int 0, .int 0, .int 0, .int 0, .ref q1, .ref q3, .ref q4, .ref q5, .ref q6, .ref q7, .int 0])), (q1, .inl (cA2, 16385, .inl (fun _ => 0)))] [(cA2, .int)] H _ := I
  refine lv_aload_n hx hb d10_Mak_init_68 rfl (lv_at hl 0 rfl) ?_
  refine lv_aload_n hx hb d10_Mak_init_69 rfl (lv_at hl 3 rfl) ?_
  refine q_putF t_Mak t_Mak_ok n_Mak C hin I 0 2 rfl rfl i_Mak (by decide) m10_51 rfl rfl rfl rfl (Nat.le_of_ble_eq_true rfl) d10_Mak_init_70 (fun H locs I => ?_)
  have I : q_I D q_cl _ s [(h0, .inr (3, [.ref p1, .ref p2, .ref p3, .null, .null, .int 0, .int 0, .int 0, .int 0, .int 0, .int 0, .ref q1, .ref q3, .ref q4, .ref q5, .ref q6, .ref q7, .int 0])), (q1, .inl (cA2, 16385, .inl (fun _ => 0)))] [(cA2, .int)] H _ := I
  exact q_vret C hr I ⟨q1, q3, q4, q5, q6, q7, cA2, rfl, rfl, rfl⟩ (Nat.le_of_ble_eq_true rfl) (Nat.le_of_ble_eq_true rfl) d10_Mak_init_73
set_option maxHeartbeats 4000000 in
set_option maxRecDepth 100000 in
/-- Reader(..) -/
theorem c_Rea_init (l : Launch) (D : va_G) (h0 : Nat) (p1 : Nat) (p2 : Nat) (p3 : Nat) : q_Met l ⟨"SignalTheatre$Reader", "<init>", "(LSignalTheatre$Tokens;LSignalTheatre$Faults;LSignalTheatre$Maker;)V"⟩ (Cond.code ⟨"SignalTheatre$Reader", "<init>", "(LSignalTheatre$Tokens;LSignalTheatre$Faults;LSignalTheatre$Maker;)V"⟩ prog_9_method_1_code 4 none) { frames := 1, cells := 1, slots := 1024, locals := 12 } D q_cl [.ref h0, .ref p1, .ref p2, .ref p3] [(h0, .inr (5, [.null, .null, .null, .null, .int 0, .int 0, .int 0, .long 0, .long 0]))] [] (fun r w ty => ∃ (q1 : Nat), r = .inl none ∧ w = [(h0, .inr (5, [.ref p1, .ref p2, .ref p3, .ref q1, .int 0, .int 0, .int 0, .long 0, .long 0]))] ∧ ty = []) := by
  refine q_ofW (by decide) ?_
  intro p e s m below meth c C hr hin hex I
  have hx := C.1
  have hb := C.2.1
  have hl := lv_entry ([.ref h0, .ref p1, .ref p2, .ref p3]) (n := 4) (Nat.le_of_ble_eq_true rfl)
  rw [lg_entry_eq]
  generalize (lg_sl ([.ref h0, .ref p1, .ref p2, .ref p3]) ++ List.replicate (4 - (lg_sl ([.ref h0, .ref p1, .ref p2, .ref p3])).length) Slot.unset).toArray = ls at hl ⊢
  have hl : lv_has ls 4 [(0, .ref h0), (1, .ref p1), (2, .ref p2), (3, .ref p3)] := hl
  refine lv_aload_n hx hb d10_Rea_init_0 rfl (lv_at hl 0 rfl) ?_
  refine q_obj C m10_52 m10_1 m10_2 hl.1 d10_Rea_init_1 (Nat.le_of_ble_eq_true rfl) (Nat.le_of_ble_eq_true rfl) ?_
  refine lv_aload_n hx hb d10_Rea_init_4 rfl (lv_at hl 0 rfl) ?_
  refine lv_sipush (v := 1024) hx hb d10_Rea_init_5 (by decide) ?_
  refine q_arrF (atype := .int) (1024, .inl (fun _ => 0)) t_Rea t_Rea_ok n_Rea C hin I 0 3 rfl rfl i_Rea (by decide) m10_53 rfl rfl rfl (Nat.le_of_ble_eq_true rfl) rfl m10_10 (fun _ => rfl) (by decide) (by decide) (by decide) (Nat.le_of_ble_eq_true rfl) (Nat.le_of_ble_eq_true rfl) d10_Rea_init_8 d10_Rea_init_10 (fun q1 H locs I => ?_)
  have I : q_I D q_cl _ s [(h0, .inr (5, [.null, .null, .null, .ref q1, .int 0, .int 0, .int 0, .long 0, .long 0]))] [] H _ := I
  refine lv_aload_n hx hb d10_Rea_init_13 rfl (lv_at hl 0 rfl) ?_
  refine lv_aload_n hx hb d10_Rea_init_14 rfl (lv_at hl 1 rfl) ?_
  refine q_putF t_Rea t_Rea_ok n_Rea C hin I 0 0 rfl rfl i_Rea (by decide) m10_54 rfl rfl rfl rfl (Nat.le_of_ble_eq_true rfl) d10_Rea_init_15 (fun H locs I => ?_)
  have I : q_I D q_cl _ s [(h0, .inr (5, [.ref p1, .null, .null, .ref q1, .int 0, .int 0, .int 0, .long 0, .long 0]))] [] H _ := I
  refine lv_aload_n hx hb d10_Rea_init_18 rfl (lv_at hl 0 rfl) ?_
  refine lv_aload_n hx hb d10_Rea_init_19 rfl (lv_at hl 2 rfl) ?_
  refine q_putF t_Rea t_Rea_ok n_Rea C hin I 0 1 rfl rfl i_Rea (by decide) m10_55 rfl rfl rfl rfl (Nat.le_of_ble_eq_true rfl) d10_Rea_init_20 (fun H locs I => ?_)
  have I : q_I D q_cl _ s [(h0, .inr (5, [.ref p1, .ref p2, .null, .ref q1, .int 0, .int 0, .int 0, .long 0, .long 0]))] [] H _ := I
  refine lv_aload_n hx hb d10_Rea_init_23 rfl (lv_at hl 0 rfl) ?_
  refine lv_aload_n hx hb d10_Rea_init_24 rfl (lv_at hl 3 rfl) ?_
  refine q_putF t_Rea t_Rea_ok n_Rea C hin I 0 2 rfl rfl i_Rea (by decide) m10_56 rfl rfl rfl rfl (Nat.le_of_ble_eq_true rfl) d10_Rea_init_25 (fun H locs I => ?_)
  have I : q_I D q_cl _ s [(h0, .inr (5, [.ref p1, .ref p2, .ref p3, .ref q1, .int 0, .int 0, .int 0, .long 0, .long 0]))] [] H _ := I
  exact q_vret C hr I ⟨q1, rfl, rfl, rfl⟩ (Nat.le_of_ble_eq_true rfl) (Nat.le_of_ble_eq_true rfl) d10_Rea_init_28
set_option maxHeartbeats 4000000 in
set_option maxRecDepth 100000 in
/-- Agenda() -/
theorem c_Age_init (l : Launch) (D : va_G) (h0 : Nat) : q_Met l ⟨"SignalTheatre$Agenda", "<init>", "()V"⟩ (Cond.code ⟨"SignalTheatre$Agenda", "<init>", "()V"⟩ prog_2_method_1_code 1 none) { frames := 1, cells := 12, slots := 38012, locals := 12 } D q_cl [.ref h0] [(h0, .inr (11, [.long 0, .null, .null, .null, .null, .null, .null, .null, .int 0, .long 0, .int 0, .null, .null, .null, .null, .null]))] [] (fun r w ty => ∃ (q1 : Nat) (q2 : Nat) (q3 : Nat) (q4 : Nat) (q5 : Nat) (q6 : Nat) (q7 : Nat) (q8 : Nat) (q9 : Nat) (q10 : Nat) (q11 : Nat) (q12 : Nat), r = .inl none ∧ w = [(h0, .inr (11, [.long 0, .ref q1, .ref q2, .ref q3, .ref q4, .ref q5, .ref q6, .ref q7, .int 0, .long 0, .int 0, .ref q8, .ref q9, .ref q10, .ref q11, .ref q12]))] ∧ ty = []) := by
  refine q_ofW (by decide) ?_
  intro p e s m below meth c C hr hin hex I
  have hx := C.1
  have hb := C.2.1
  have hl := lv_entry ([.ref h0]) (n := 1) (Nat.le_of_ble_eq_true rfl)
  rw [lg_entry_eq]
  generalize (lg_sl ([.ref h0]) ++ List.replicate (1 - (lg_sl ([.ref h0])).length) Slot.unset).toArray = ls at hl ⊢
  have hl : lv_has ls 1 [(0, .ref h0)] := hl
  refine lv_aload_n hx hb d10_Age_init_0 rfl (lv_at hl 0 rfl) ?_
  refine q_obj C m10_57 m10_1 m10_2 hl.1 d10_Age_init_1 (Nat.le_of_ble_eq_true rfl) (Nat.le_of_ble_eq_true rfl) ?_
  refine lv_aload_n hx hb d10_Age_init_4 rfl (lv_at hl 0 rfl) ?_
  refine lv_sipush (v := 4800) hx hb d10_Age_init_5 (by decide) ?_
  refine q_arrF (atype := .int) (4800, .inl (fun _ => 0)) t_Age t_Age_ok n_Age C hin I 0 1 rfl rfl i_Age (by decide) m10_58 rfl rfl rfl (Nat.le_of_ble_eq_true rfl) rfl m10_10 (fun _ => rfl) (by decide) (by decide) (by decide) (Nat.le_of_ble_eq_true rfl) (Nat.le_of_ble_eq_true rfl) d10_Age_init_8 d10_Age_init_10 (fun q1 H locs I => ?_)
  have I : q_I D q_cl _ s [(h0, .inr (11, [.long 0, .ref q1, .null, .null, .null, .null, .null, .null, .int 0, .long 0, .int 0, .null, .null, .null, .null, .null]))] [] H _ := I
  refine lv_aload_n hx hb d10_Age_init_13 rfl (lv_at hl 0 rfl) ?_
  refine lv_iconst (v := 4) hx hb d10_Age_init_14 (by decide) ?_
  refine q_arrF (atype := .int) (4, .inl (fun _ => 0)) t_Age t_Age_ok n_Age C hin I 0 2 rfl rfl i_Age (by decide) m10_59 rfl rfl rfl (Nat.le_of_ble_eq_true rfl) rfl m10_10 (fun _ => rfl) (by decide) (by decide) (by decide) (Nat.le_of_ble_eq_true rfl) (Nat.le_of_ble_eq_true rfl) d10_Age_init_15 d10_Age_init_17 (fun q2 H locs I => ?_)
  have I : q_I D q_cl _ s [(h0, .inr (11, [.long 0, .ref q1, .ref q2, .null, .null, .null, .null, .null, .int 0, .long 0, .int 0, .null, .null, .null, .null, .null]))] [] H _ := I
  refine lv_aload_n hx hb d10_Age_init_20 rfl (lv_at hl 0 rfl) ?_
  refine lv_iconst (v := 4) hx hb d10_Age_init_21 (by decide) ?_
  refine q_arrF (atype := .int) (4, .inl (fun _ => 0)) t_Age t_Age_ok n_Age C hin I 0 3 rfl rfl i_Age (by decide) m10_60 rfl rfl rfl (Nat.le_of_ble_eq_true rfl) rfl m10_10 (fun _ => rfl) (by decide) (by decide) (by decide) (Nat.le_of_ble_eq_true rfl) (Nat.le_of_ble_eq_true rfl) d10_Age_init_22 d10_Age_init_24 (fun q3 H locs I => ?_)
  have I : q_I D q_cl _ s [(h0, .inr (11, [.long 0, .ref q1, .ref q2, .ref q3, .null, .null, .null, .null, .int 0, .long 0, .int 0, .null, .null, .null, .null, .null]))] [] H _ := I
  refine lv_aload_n hx hb d10_Age_init_27 rfl (lv_at hl 0 rfl) ?_
  refine lv_iconst (v := 4) hx hb d10_Age_init_28 (by decide) ?_
  refine q_arrF (atype := .int) (4, .inl (fun _ => 0)) t_Age t_Age_ok n_Age C hin I 0 4 rfl rfl i_Age (by decide) m10_61 rfl rfl rfl (Nat.le_of_ble_eq_true rfl) rfl m10_10 (fun _ => rfl) (by decide) (by decide) (by decide) (Nat.le_of_ble_eq_true rfl) (Nat.le_of_ble_eq_true rfl) d10_Age_init_29 d10_Age_init_31 (fun q4 H locs I => ?_)
  have I : q_I D q_cl _ s [(h0, .inr (11, [.long 0, .ref q1, .ref q2, .ref q3, .ref q4, .null, .null, .null, .int 0, .long 0, .int 0, .null, .null, .null, .null, .null]))] [] H _ := I
  refine lv_aload_n hx hb d10_Age_init_34 rfl (lv_at hl 0 rfl) ?_
  refine lv_sipush (v := 4400) hx hb d10_Age_init_35 (by decide) ?_
  refine q_arrF (atype := .long) (4400, .inr (.inl (fun _ => 0))) t_Age t_Age_ok n_Age C hin I 0 5 rfl rfl i_Age (by decide) m10_62 rfl rfl rfl (Nat.le_of_ble_eq_true rfl) rfl m10_5 (fun _ => rfl) (by decide) (by decide) (by decide) (Nat.le_of_ble_eq_true rfl) (Nat.le_of_ble_eq_true rfl) d10_Age_init_38 d10_Age_init_40 (fun q5 H locs I => ?_)
  have I : q_I D q_cl _ s [(h0, .inr (11, [.long 0, .ref q1, .ref q2, .ref q3, .ref q4, .ref q5, .null, .null, .int 0, .long 0, .int 0, .null, .null, .null, .null, .null]))] [] H _ := I
  refine lv_aload_n hx hb d10_Age_init_43 rfl (lv_at hl 0 rfl) ?_
  refine lv_sipush (v := 4400) hx hb d10_Age_init_44 (by decide) ?_
  refine q_arrF (atype := .long) (4400, .inr (.inl (fun _ => 0))) t_Age t_Age_ok n_Age C hin I 0 6 rfl rfl i_Age (by decide) m10_63 rfl rfl rfl (Nat.le_of_ble_eq_true rfl) rfl m10_5 (fun _ => rfl) (by decide) (by decide) (by decide) (Nat.le_of_ble_eq_true rfl) (Nat.le_of_ble_eq_true rfl) d10_Age_init_47 d10_Age_init_49 (fun q6 H locs I => ?_)
  have I : q_I D q_cl _ s [(h0, .inr (11, [.long 0, .ref q1, .ref q2, .ref q3, .ref q4, .ref q5, .ref q6, .null, .int 0, .long 0, .int 0, .null, .null, .null, .null, .null]))] [] H _ := I
  refine lv_aload_n hx hb d10_Age_init_52 rfl (lv_at hl 0 rfl) ?_
  refine lv_sipush (v := 4400) hx hb d10_Age_init_53 (by decide) ?_
  refine q_arrF (atype := .int) (4400, .inl (fun _ => 0)) t_Age t_Age_ok n_Age C hin I 0 7 rfl rfl i_Age (by decide) m10_64 rfl rfl rfl (Nat.le_of_ble_eq_true rfl) rfl m10_10 (fun _ => rfl) (by decide) (by decide) (by decide) (Nat.le_of_ble_eq_true rfl) (Nat.le_of_ble_eq_true rfl) d10_Age_init_56 d10_Age_init_58 (fun q7 H locs I => ?_)
  have I : q_I D q_cl _ s [(h0, .inr (11, [.long 0, .ref q1, .ref q2, .ref q3, .ref q4, .ref q5, .ref q6, .ref q7, .int 0, .long 0, .int 0, .null, .null, .null, .null, .null]))] [] H _ := I
  refine lv_aload_n hx hb d10_Age_init_61 rfl (lv_at hl 0 rfl) ?_
  refine lv_sipush (v := 4000) hx hb d10_Age_init_62 (by decide) ?_
  refine q_arrF (atype := .int) (4000, .inl (fun _ => 0)) t_Age t_Age_ok n_Age C hin I 0 11 rfl rfl i_Age (by decide) m10_65 rfl rfl rfl (Nat.le_of_ble_eq_true rfl) rfl m10_10 (fun _ => rfl) (by decide) (by decide) (by decide) (Nat.le_of_ble_eq_true rfl) (Nat.le_of_ble_eq_true rfl) d10_Age_init_65 d10_Age_init_67 (fun q8 H locs I => ?_)
  have I : q_I D q_cl _ s [(h0, .inr (11, [.long 0, .ref q1, .ref q2, .ref q3, .ref q4, .ref q5, .ref q6, .ref q7, .int 0, .long 0, .int 0, .ref q8, .null, .null, .null, .null]))] [] H _ := I
  refine lv_aload_n hx hb d10_Age_init_70 rfl (lv_at hl 0 rfl) ?_
  refine lv_sipush (v := 4000) hx hb d10_Age_init_71 (by decide) ?_
  refine q_arrF (atype := .int) (4000, .inl (fun _ => 0)) t_Age t_Age_ok n_Age C hin I 0 12 rfl rfl i_Age (by decide) m10_66 rfl rfl rfl (Nat.le_of_ble_eq_true rfl) rfl m10_10 (fun _ => rfl) (by decide) (by decide) (by decide) (Nat.le_of_ble_eq_true rfl) (Nat.le_of_ble_eq_true rfl) d10_Age_init_74 d10_Age_init_76 (fun q9 H locs I => ?_)
  have I : q_I D q_cl _ s [(h0, .inr (11, [.long 0, .ref q1, .ref q2, .ref q3, .ref q4, .ref q5, .ref q6, .ref q7, .int 0, .long 0, .int 0, .ref q8, .ref q9, .null, .null, .null]))] [] H _ := I
  refine lv_aload_n hx hb d10_Age_init_79 rfl (lv_at hl 0 rfl) ?_
  refine lv_sipush (v := 4000) hx hb d10_Age_init_80 (by decide) ?_
  refine q_arrF (atype := .int) (4000, .inl (fun _ => 0)) t_Age t_Age_ok n_Age C hin I 0 13 rfl rfl i_Age (by decide) m10_67 rfl rfl rfl (Nat.le_of_ble_eq_true rfl) rfl m10_10 (fun _ => rfl) (by decide) (by decide) (by decide) (Nat.le_of_ble_eq_true rfl) (Nat.le_of_ble_eq_true rfl) d10_Age_init_83 d10_Age_init_85 (fun q10 H locs I => ?_)
  have I : q_I D q_cl _ s [(h0, .inr (11, [.long 0, .ref q1, .ref q2, .ref q3, .ref q4, .ref q5, .ref q6, .ref q7, .int 0, .long 0, .int 0, .ref q8, .ref q9, .ref q10, .null, .null]))] [] H _ := I
  refine lv_aload_n hx hb d10_Age_init_88 rfl (lv_at hl 0 rfl) ?_
  refine lv_sipush (v := 4000) hx hb d10_Age_init_89 (by decide) ?_
  refine q_arrF (atype := .long) (4000, .inr (.inl (fun _ => 0))) t_Age t_Age_ok n_Age C hin I 0 14 rfl rfl i_Age (by decide) m10_68 rfl rfl rfl (Nat.le_of_ble_eq_true rfl) rfl m10_5 (fun _ => rfl) (by decide) (by decide) (by decide) (Nat.le_of_ble_eq_true rfl) (Nat.le_of_ble_eq_true rfl) d10_Age_init_92 d10_Age_init_94 (fun q11 H locs I => ?_)
  have I : q_I D q_cl _ s [(h0, .inr (11, [.long 0, .ref q1, .ref q2, .ref q3, .ref q4, .ref q5, .ref q6, .ref q7, .int 0, .long 0, .int 0, .ref q8, .ref q9, .ref q10, .ref q11, .null]))] [] H _ := I
  refine lv_aload_n hx hb d10_Age_init_97 rfl (lv_at hl 0 rfl) ?_
  refine lv_sipush (v := 4000) hx hb d10_Age_init_98 (by decide) ?_
  refine q_arrF (atype := .long) (4000, .inr (.inl (fun _ => 0))) t_Age t_Age_ok n_Age C hin I 0 15 rfl rfl i_Age (by decide) m10_69 rfl rfl rfl (Nat.le_of_ble_eq_true rfl) rfl m10_5 (fun _ => rfl) (by decide) (by decide) (by decide) (Nat.le_of_ble_eq_true rfl) (Nat.le_of_ble_eq_true rfl) d10_Age_init_101 d10_Age_init_103 (fun q12 H locs I => ?_)
  have I : q_I D q_cl _ s [(h0, .inr (11, [.long 0, .ref q1, .ref q2, .ref q3, .ref q4, .ref q5, .ref q6, .ref q7, .int 0, .long 0, .int 0, .ref q8, .ref q9, .ref q10, .ref q11, .ref q12]))] [] H _ := I
  exact q_vret C hr I ⟨q1, q2, q3, q4, q5, q6, q7, q8, q9, q10, q11, q12, rfl, rfl, rfl⟩ (Nat.le_of_ble_eq_true rfl) (Nat.le_of_ble_eq_true rfl) d10_Age_init_106
set_option maxHeartbeats 4000000 in
set_option maxRecDepth 100000 in
/-- Book(worth) -/
theorem c_Boo_init (l : Launch) (D : va_G) (h0 : Nat) (p1 : Nat) : q_Met l ⟨"SignalTheatre$Book", "<init>", "(LSignalTheatre$Worth;)V"⟩ (Cond.code ⟨"SignalTheatre$Book", "<init>", "(LSignalTheatre$Worth;)V"⟩ prog_3_method_1_code 2 none) { frames := 1, cells := 3, slots := 65560, locals := 12 } D q_cl [.ref h0, .ref p1] [(h0, .inr (12, [.null, .int 0, .null, .null, .null, .null]))] [] (fun r w ty => ∃ (q1 : Nat) (q2 : Nat) (q3 : Nat), r = .inl none ∧ w = [(h0, .inr (12, [.ref q1, .int 0, .ref q2, .ref q3, .ref p1, .null]))] ∧ ty = []) := by
  refine q_ofW (by decide) ?_
  intro p e s m below meth c C hr hin hex I
  have hx := C.1
  have hb := C.2.1
  have hl := lv_entry ([.ref h0, .ref p1]) (n := 2) (Nat.le_of_ble_eq_true rfl)
  rw [lg_entry_eq]
  generalize (lg_sl ([.ref h0, .ref p1]) ++ List.replicate (2 - (lg_sl ([.ref h0, .ref p1])).length) Slot.unset).toArray = ls at hl ⊢
  have hl : lv_has ls 2 [(0, .ref h0), (1, .ref p1)] := hl
  refine lv_aload_n hx hb d10_Boo_init_0 rfl (lv_at hl 0 rfl) ?_
  refine q_obj C m10_70 m10_1 m10_2 hl.1 d10_Boo_init_1 (Nat.le_of_ble_eq_true rfl) (Nat.le_of_ble_eq_true rfl) ?_
  refine lv_aload_n hx hb d10_Boo_init_4 rfl (lv_at hl 0 rfl) ?_
  refine lv_ldc hx hb C.2.2.2.1 (C.2.2.2.2.1 _ m10_71) d10_Boo_init_5 ?_
  refine q_arrF (atype := .byte) (32768, .inl (fun _ => 0)) t_Boo t_Boo_ok n_Boo C hin I 0 0 rfl rfl i_Boo (by decide) m10_72 rfl rfl rfl (Nat.le_of_ble_eq_true rfl) rfl m10_73 (fun _ => rfl) (by decide) (by decide) (by decide) (Nat.le_of_ble_eq_true rfl) (Nat.le_of_ble_eq_true rfl) d10_Boo_init_7 d10_Boo_init_9 (fun q1 H locs I => ?_)
  have I : q_I D q_cl _ s [(h0, .inr (12, [.ref q1, .int 0, .null, .null, .null, .null]))] [] H _ := I
  refine lv_aload_n hx hb d10_Boo_init_12 rfl (lv_at hl 0 rfl) ?_
  refine lv_ldc hx hb C.2.2.2.1 (C.2.2.2.2.1 _ m10_71) d10_Boo_init_13 ?_
  refine q_arrF (atype := .byte) (32768, .inl (fun _ => 0)) t_Boo t_Boo_ok n_Boo C hin I 0 2 rfl rfl i_Boo (by decide) m10_74 rfl rfl rfl (Nat.le_of_ble_eq_true rfl) rfl m10_73 (fun _ => rfl) (by decide) (by decide) (by decide) (Nat.le_of_ble_eq_true rfl) (Nat.le_of_ble_eq_true rfl) d10_Boo_init_15 d10_Boo_init_17 (fun q2 H locs I => ?_)
  have I : q_I D q_cl _ s [(h0, .inr (12, [.ref q1, .int 0, .ref q2, .null, .null, .null]))] [] H _ := I
  refine lv_aload_n hx hb d10_Boo_init_20 rfl (lv_at hl 0 rfl) ?_
  refine lv_bipush (v := 24) hx hb d10_Boo_init_21 (by decide) ?_
  refine q_arrF (atype := .int) (24, .inl (fun _ => 0)) t_Boo t_Boo_ok n_Boo C hin I 0 3 rfl rfl i_Boo (by decide) m10_75 rfl rfl rfl (Nat.le_of_ble_eq_true rfl) rfl m10_10 (fun _ => rfl) (by decide) (by decide) (by decide) (Nat.le_of_ble_eq_true rfl) (Nat.le_of_ble_eq_true rfl) d10_Boo_init_23 d10_Boo_init_25 (fun q3 H locs I => ?_)
  have I : q_I D q_cl _ s [(h0, .inr (12, [.ref q1, .int 0, .ref q2, .ref q3, .null, .null]))] [] H _ := I
  refine lv_aload_n hx hb d10_Boo_init_28 rfl (lv_at hl 0 rfl) ?_
  refine lv_aload_n hx hb d10_Boo_init_29 rfl (lv_at hl 1 rfl) ?_
  refine q_putF t_Boo t_Boo_ok n_Boo C hin I 0 4 rfl rfl i_Boo (by decide) m10_76 rfl rfl rfl rfl (Nat.le_of_ble_eq_true rfl) d10_Boo_init_30 (fun H locs I => ?_)
  have I : q_I D q_cl _ s [(h0, .inr (12, [.ref q1, .int 0, .ref q2, .ref q3, .ref p1, .null]))] [] H _ := I
  exact q_vret C hr I ⟨q1, q2, q3, rfl, rfl, rfl⟩ (Nat.le_of_ble_eq_true rfl) (Nat.le_of_ble_eq_true rfl) d10_Boo_init_33
set_option maxHeartbeats 4000000 in
set_option maxRecDepth 100000 in
/-- Stage(..) -/
theorem c_Sta_init (l : Launch) (D : va_G) (h0 : Nat) (p1 : Nat) (p2 : Nat) (p3 : Nat) : q_Met l ⟨"SignalTheatre$Stage", "<init>", "(LSignalTheatre$Agenda;LSignalTheatre$Worth;LSignalTheatre$Book;)V"⟩ (Cond.code ⟨"SignalTheatre$Stage", "<init>", "(LSignalTheatre$Agenda;LSignalTheatre$Worth;LSignalTheatre$Book;)V"⟩ prog_11_method_1_code 4 none) { frames := 1, cells := 7, slots := 12800, locals := 12 } D q_cl [.ref h0, .ref p1, .ref p2, .ref p3] [(h0, .inr (10, [.null, .null, .null, .null, .null, .null, .null, .null, .null, .null, .null, .int 0, .null, .int 0, .int 0, .int 0, .int 0, .int 0]))] [] (fun r w ty => ∃ (q1 : Nat) (q2 : Nat) (q3 : Nat) (q4 : Nat) (q5 : Nat) (q6 : Nat) (q7 : Nat), r = .inl none ∧ w = [(h0, .inr (10, [.ref p1, .ref p2, .ref p3, .null, .null, .ref q1, .ref q2, .ref q3, .ref q4, .ref q5, .ref q6, .int 0, .ref q7, .int 0, .int 0, .int 0, .int 0, .int 0]))] ∧ ty = []) := by
  refine q_ofW (by decide) ?_
  intro p e s m below meth c C hr hin hex I
  have hx := C.1
  have hb := C.2.1
  have hl := lv_entry ([.ref h0, .ref p1, .ref p2, .ref p3]) (n := 4) (Nat.le_of_ble_eq_true rfl)
  rw [lg_entry_eq]
  generalize (lg_sl ([.ref h0, .ref p1, .ref p2, .ref p3]) ++ List.replicate (4 - (lg_sl ([.ref h0, .ref p1, .ref p2, .ref p3])).length) Slot.unset).toArray = ls at hl ⊢
  have hl : lv_has ls 4 [(0, .ref h0), (1, .ref p1), (2, .ref p2), (3, .ref p3)] := hl
  refine lv_aload_n hx hb d10_Sta_init_0 rfl (lv_at hl 0 rfl) ?_
  refine q_obj C m10_77 m10_1 m10_2 hl.1 d10_Sta_init_1 (Nat.le_of_ble_eq_true rfl) (Nat.le_of_ble_eq_true rfl) ?_
  refine lv_aload_n hx hb d10_Sta_init_4 rfl (lv_at hl 0 rfl) ?_
  refine lv_sipush (v := 400) hx hb d10_Sta_init_5 (by decide) ?_
  refine q_arrF (atype := .int) (400, .inl (fun _ => 0)) t_Sta t_Sta_ok n_Sta C hin I 0 5 rfl rfl i_Sta (by decide) m10_78 rfl rfl rfl (Nat.le_of_ble_eq_true rfl) rfl m10_10 (fun _ => rfl) (by decide) (by decide) (by decide) (Nat.le_of_ble_eq_true rfl) (Nat.le_of_ble_eq_true rfl) d10_Sta_init_8 d10_Sta_init_10 (fun q1 H locs I => ?_)
  have I : q_I D q_cl _ s [(h0, .inr (10, [.null, .null, .null, .null, .null, .ref q1, .null, .null, .null, .null, .null, .int 0, .null, .int 0, .int 0, .int 0, .int 0, .int 0]))] [] H _ := I
  refine lv_aload_n hx hb d10_Sta_init_13 rfl (lv_at hl 0 rfl) ?_
  refine lv_sipush (v := 400) hx hb d10_Sta_init_14 (by decide) ?_
  refine q_arrF (atype := .long) (400, .inr (.inl (fun _ => 0))) t_Sta t_Sta_ok n_Sta C hin I 0 6 rfl rfl i_Sta (by decide) m10_79 rfl rfl rfl (Nat.le_of_ble_eq_true rfl) rfl m10_5 (fun _ => rfl) (by decide) (by decide) (by decide) (Nat.le_of_ble_eq_true rfl) (Nat.le_of_ble_eq_true rfl) d10_Sta_init_17 d10_Sta_init_19 (fun q2 H locs I => ?_)
  have I : q_I D q_cl _ s [(h0, .inr (10, [.null, .null, .null, .null, .null, .ref q1, .ref q2, .null, .null, .null, .null, .int 0, .null, .int 0, .int 0, .int 0, .int 0, .int 0]))] [] H _ := I
  refine lv_aload_n hx hb d10_Sta_init_22 rfl (lv_at hl 0 rfl) ?_
  refine lv_sipush (v := 400) hx hb d10_Sta_init_23 (by decide) ?_
  refine q_arrF (atype := .long) (400, .inr (.inl (fun _ => 0))) t_Sta t_Sta_ok n_Sta C hin I 0 7 rfl rfl i_Sta (by decide) m10_80 rfl rfl rfl (Nat.le_of_ble_eq_true rfl) rfl m10_5 (fun _ => rfl) (by decide) (by decide) (by decide) (Nat.le_of_ble_eq_true rfl) (Nat.le_of_ble_eq_true rfl) d10_Sta_init_26 d10_Sta_init_28 (fun q3 H locs I => ?_)
  have I : q_I D q_cl _ s [(h0, .inr (10, [.null, .null, .null, .null, .null, .ref q1, .ref q2, .ref q3, .null, .null, .null, .int 0, .null, .int 0, .int 0, .int 0, .int 0, .int 0]))] [] H _ := I
  refine lv_aload_n hx hb d10_Sta_init_31 rfl (lv_at hl 0 rfl) ?_
  refine lv_sipush (v := 400) hx hb d10_Sta_init_32 (by decide) ?_
  refine q_arrF (atype := .int) (400, .inl (fun _ => 0)) t_Sta t_Sta_ok n_Sta C hin I 0 8 rfl rfl i_Sta (by decide) m10_81 rfl rfl rfl (Nat.le_of_ble_eq_true rfl) rfl m10_10 (fun _ => rfl) (by decide) (by decide) (by decide) (Nat.le_of_ble_eq_true rfl) (Nat.le_of_ble_eq_true rfl) d10_Sta_init_35 d10_Sta_init_37 (fun q4 H locs I => ?_)
  have I : q_I D q_cl _ s [(h0, .inr (10, [.null, .null, .null, .null, .null, .ref q1, .ref q2, .ref q3, .ref q4, .null, .null, .int 0, .null, .int 0, .int 0, .int 0, .int 0, .int 0]))] [] H _ := I
  refine lv_aload_n hx hb d10_Sta_init_40 rfl (lv_at hl 0 rfl) ?_
  refine lv_sipush (v := 2800) hx hb d10_Sta_init_41 (by decide) ?_
  refine q_arrF (atype := .long) (2800, .inr (.inl (fun _ => 0))) t_Sta t_Sta_ok n_Sta C hin I 0 9 rfl rfl i_Sta (by decide) m10_82 rfl rfl rfl (Nat.le_of_ble_eq_true rfl) rfl m10_5 (fun _ => rfl) (by decide) (by decide) (by decide) (Nat.le_of_ble_eq_true rfl) (Nat.le_of_ble_eq_true rfl) d10_Sta_init_44 d10_Sta_init_46 (fun q5 H locs I => ?_)
  have I : q_I D q_cl _ s [(h0, .inr (10, [.null, .null, .null, .null, .null, .ref q1, .ref q2, .ref q3, .ref q4, .ref q5, .null, .int 0, .null, .int 0, .int 0, .int 0, .int 0, .int 0]))] [] H _ := I
  refine lv_aload_n hx hb d10_Sta_init_49 rfl (lv_at hl 0 rfl) ?_
  refine lv_sipush (v := 400) hx hb d10_Sta_init_50 (by decide) ?_
  refine q_arrF (atype := .int) (400, .inl (fun _ => 0)) t_Sta t_Sta_ok n_Sta C hin I 0 10 rfl rfl i_Sta (by decide) m10_83 rfl rfl rfl (Nat.le_of_ble_eq_true rfl) rfl m10_10 (fun _ => rfl) (by decide) (by decide) (by decide) (Nat.le_of_ble_eq_true rfl) (Nat.le_of_ble_eq_true rfl) d10_Sta_init_53 d10_Sta_init_55 (fun q6 H locs I => ?_)
  have I : q_I D q_cl _ s [(h0, .inr (10, [.null, .null, .null, .null, .null, .ref q1, .ref q2, .ref q3, .ref q4, .ref q5, .ref q6, .int 0, .null, .int 0, .int 0, .int 0, .int 0, .int 0]))] [] H _ := I
  refine lv_aload_n hx hb d10_Sta_init_58 rfl (lv_at hl 0 rfl) ?_
  refine lv_sipush (v := 8000) hx hb d10_Sta_init_59 (by decide) ?_
  refine q_arrF (atype := .long) (8000, .inr (.inl (fun _ => 0))) t_Sta t_Sta_ok n_Sta C hin I 0 12 rfl rfl i_Sta (by decide) m10_84 rfl rfl rfl (Nat.le_of_ble_eq_true rfl) rfl m10_5 (fun _ => rfl) (by decide) (by decide) (by decide) (Nat.le_of_ble_eq_true rfl) (Nat.le_of_ble_eq_true rfl) d10_Sta_init_62 d10_Sta_init_64 (fun q7 H locs I => ?_)
  have I : q_I D q_cl _ s [(h0, .inr (10, [.null, .null, .null, .null, .null, .ref q1, .ref q2, .ref q3, .ref q4, .ref q5, .ref q6, .int 0, .ref q7, .int 0, .int 0, .int 0, .int 0, .int 0]))] [] H _ := I
  refine lv_aload_n hx hb d10_Sta_init_67 rfl (lv_at hl 0 rfl) ?_
  refine lv_aload_n hx hb d10_Sta_init_68 rfl (lv_at hl 1 rfl) ?_
  refine q_putF t_Sta t_Sta_ok n_Sta C hin I 0 0 rfl rfl i_Sta (by decide) m10_85 rfl rfl rfl rfl (Nat.le_of_ble_eq_true rfl) d10_Sta_init_69 (fun H locs I => ?_)
  have I : q_I D q_cl _ s [(h0, .inr (10, [.ref p1, .null, .null, .null, .null, .ref q1, .ref q2, .ref q3, .ref q4, .ref q5, .ref q6, .int 0, .ref q7, .int 0, .int 0, .int 0, .int 0, .int 0]))] [] H _ := I
  refine lv_aload_n hx hb d10_Sta_init_72 rfl (lv_at hl 0 rfl) ?_
  refine lv_aload_n hx hb d10_Sta_init_73 rfl (lv_at hl 2 rfl) ?_
  refine q_putF t_Sta t_Sta_ok n_Sta C hin I 0 1 rfl rfl i_Sta (by decide) m10_86 rfl rfl rfl rfl (Nat.le_of_ble_eq_true rfl) d10_Sta_init_74 (fun H locs I => ?_)
  have I : q_I D q_cl _ s [(h0, .inr (10, [.ref p1, .ref p2, .null, .null, .null, .ref q1, .ref q2, .ref q3, .ref q4, .ref q5, .ref q6, .int 0, .ref q7, .int 0, .int 0, .int 0, .int 0, .int 0]))] [] H _ := I
  refine lv_aload_n hx hb d10_Sta_init_77 rfl (lv_at hl 0 rfl) ?_
  refine lv_aload_n hx hb d10_Sta_init_78 rfl (lv_at hl 3 rfl) ?_
  refine q_putF t_Sta t_Sta_ok n_Sta C hin I 0 2 rfl rfl i_Sta (by decide) m10_87 rfl rfl rfl rfl (Nat.le_of_ble_eq_true rfl) d10_Sta_init_79 (fun H locs I => ?_)
  have I : q_I D q_cl _ s [(h0, .inr (10, [.ref p1, .ref p2, .ref p3, .null, .null, .ref q1, .ref q2, .ref q3, .ref q4, .ref q5, .ref q6, .int 0, .ref q7, .int 0, .int 0, .int 0, .int 0, .int 0]))] [] H _ := I
  exact q_vret C hr I ⟨q1, q2, q3, q4, q5, q6, q7, rfl, rfl, rfl⟩ (Nat.le_of_ble_eq_true rfl) (Nat.le_of_ble_eq_true rfl) d10_Sta_init_82
