set_option maxRecDepth 20000 in
theorem mc_0 : (Cond.laysFinal "SignalTheatre" "SignalTheatre" "input" "[B" : Cond) ∈ q_big := q_m4 (List.mem_of_getElem? (i := 99) rfl) rfl
set_option maxRecDepth 20000 in
theorem mc_1 : (Cond.lays "SignalTheatre" "SignalTheatre" "length" "I" : Cond) ∈ q_big := q_m4 (List.mem_of_getElem? (i := 101) rfl) rfl
set_option maxRecDepth 20000 in
theorem mc_2 : (Cond.lays "SignalTheatre" "SignalTheatre" "built" "Z" : Cond) ∈ q_big := q_m4 (List.mem_of_getElem? (i := 103) rfl) rfl
set_option maxRecDepth 20000 in
theorem mc_3 : (Cond.lays "SignalTheatre" "SignalTheatre" "circuit" "LSignalTheatre$Circuit;" : Cond) ∈ q_big := q_m4 (List.mem_of_getElem? (i := 105) rfl) rfl
set_option maxRecDepth 20000 in
theorem mc_4 : (Cond.lays "SignalTheatre" "SignalTheatre" "spare" "LSignalTheatre$Circuit;" : Cond) ∈ q_big := q_m4 (List.mem_of_getElem? (i := 107) rfl) rfl
set_option maxRecDepth 20000 in
theorem mc_5 : (Cond.laysFinal "SignalTheatre" "SignalTheatre" "faults" "LSignalTheatre$Faults;" : Cond) ∈ q_big := q_m4 (List.mem_of_getElem? (i := 109) rfl) rfl
set_option maxRecDepth 20000 in
theorem mc_6 : (Cond.laysFinal "SignalTheatre" "SignalTheatre" "builder" "LSignalTheatre$Builder;" : Cond) ∈ q_big := q_m4 (List.mem_of_getElem? (i := 111) rfl) rfl
set_option maxRecDepth 20000 in
theorem mc_7 : (Cond.laysFinal "SignalTheatre" "SignalTheatre" "stage" "LSignalTheatre$Stage;" : Cond) ∈ q_big := q_m4 (List.mem_of_getElem? (i := 113) rfl) rfl
set_option maxRecDepth 20000 in
theorem mc_8 : (Cond.lays "SignalTheatre$Tokens" "SignalTheatre$Tokens" "text" "[B" : Cond) ∈ q_big := q_m1 (List.mem_of_getElem? (i := 94) rfl) rfl
set_option maxRecDepth 20000 in
theorem mc_9 : (Cond.lays "SignalTheatre$Tokens" "SignalTheatre$Tokens" "length" "I" : Cond) ∈ q_big := q_m1 (List.mem_of_getElem? (i := 96) rfl) rfl
set_option maxRecDepth 20000 in
theorem mc_10 : (Cond.laysFinal "SignalTheatre$Tokens" "SignalTheatre$Tokens" "kind" "[I" : Cond) ∈ q_big := q_m1 (List.mem_of_getElem? (i := 98) rfl) rfl
set_option maxRecDepth 20000 in
theorem mc_11 : (Cond.laysFinal "SignalTheatre$Tokens" "SignalTheatre$Tokens" "place" "[I" : Cond) ∈ q_big := q_m1 (List.mem_of_getElem? (i := 100) rfl) rfl
set_option maxRecDepth 20000 in
theorem mc_12 : (Cond.laysFinal "SignalTheatre$Tokens" "SignalTheatre$Tokens" "info" "[I" : Cond) ∈ q_big := q_m1 (List.mem_of_getElem? (i := 102) rfl) rfl
set_option maxRecDepth 20000 in
theorem mc_13 : (Cond.lays "SignalTheatre$Tokens" "SignalTheatre$Tokens" "size" "I" : Cond) ∈ q_big := q_m1 (List.mem_of_getElem? (i := 104) rfl) rfl
set_option maxRecDepth 20000 in
theorem mc_14 : (Cond.laysFinal "SignalTheatre$Tokens" "SignalTheatre$Tokens" "nameHead" "[I" : Cond) ∈ q_big := q_m1 (List.mem_of_getElem? (i := 106) rfl) rfl
set_option maxRecDepth 20000 in
theorem mc_15 : (Cond.laysFinal "SignalTheatre$Tokens" "SignalTheatre$Tokens" "nameNext" "[I" : Cond) ∈ q_big := q_m1 (List.mem_of_getElem? (i := 108) rfl) rfl
set_option maxRecDepth 20000 in
theorem mc_16 : (Cond.laysFinal "SignalTheatre$Tokens" "SignalTheatre$Tokens" "namePlace" "[I" : Cond) ∈ q_big := q_m1 (List.mem_of_getElem? (i := 110) rfl) rfl
set_option maxRecDepth 20000 in
theorem mc_17 : (Cond.laysFinal "SignalTheatre$Tokens" "SignalTheatre$Tokens" "nameLength" "[I" : Cond) ∈ q_big := q_m1 (List.mem_of_getElem? (i := 112) rfl) rfl
set_option maxRecDepth 20000 in
theorem mc_18 : (Cond.laysFinal "SignalTheatre$Tokens" "SignalTheatre$Tokens" "nameWord" "[I" : Cond) ∈ q_big := q_m1 (List.mem_of_getElem? (i := 114) rfl) rfl
set_option maxRecDepth 20000 in
theorem mc_19 : (Cond.lays "SignalTheatre$Tokens" "SignalTheatre$Tokens" "names" "I" : Cond) ∈ q_big := q_m1 (List.mem_of_getElem? (i := 116) rfl) rfl
set_option maxRecDepth 20000 in
theorem mc_20 : (Cond.laysFinal "SignalTheatre$Tokens" "SignalTheatre$Tokens" "numberOnes" "[J" : Cond) ∈ q_big := q_m1 (List.mem_of_getElem? (i := 118) rfl) rfl
set_option maxRecDepth 20000 in
theorem mc_21 : (Cond.laysFinal "SignalTheatre$Tokens" "SignalTheatre$Tokens" "numberUnknown" "[J" : Cond) ∈ q_big := q_m1 (List.mem_of_getElem? (i := 120) rfl) rfl
set_option maxRecDepth 20000 in
theorem mc_22 : (Cond.laysFinal "SignalTheatre$Tokens" "SignalTheatre$Tokens" "numberShape" "[I" : Cond) ∈ q_big := q_m1 (List.mem_of_getElem? (i := 122) rfl) rfl
set_option maxRecDepth 20000 in
theorem mc_23 : (Cond.lays "SignalTheatre$Tokens" "SignalTheatre$Tokens" "numbers" "I" : Cond) ∈ q_big := q_m1 (List.mem_of_getElem? (i := 124) rfl) rfl
set_option maxRecDepth 20000 in
theorem mc_24 : (Cond.lays "SignalTheatre$Tokens" "SignalTheatre$Tokens" "ones" "J" : Cond) ∈ q_big := q_m1 (List.mem_of_getElem? (i := 126) rfl) rfl
set_option maxRecDepth 20000 in
theorem mc_25 : (Cond.lays "SignalTheatre$Tokens" "SignalTheatre$Tokens" "unknown" "J" : Cond) ∈ q_big := q_m1 (List.mem_of_getElem? (i := 128) rfl) rfl
set_option maxRecDepth 20000 in
theorem mc_26 : (Cond.lays "SignalTheatre$Tokens" "SignalTheatre$Tokens" "width" "I" : Cond) ∈ q_big := q_m1 (List.mem_of_getElem? (i := 130) rfl) rfl
set_option maxRecDepth 20000 in
theorem mc_27 : (Cond.lays "SignalTheatre$Tokens" "SignalTheatre$Tokens" "signed" "Z" : Cond) ∈ q_big := q_m1 (List.mem_of_getElem? (i := 132) rfl) rfl
set_option maxRecDepth 20000 in
theorem mc_28 : (Cond.laysFinal "SignalTheatre$Faults" "SignalTheatre$Faults" "tokens" "LSignalTheatre$Tokens;" : Cond) ∈ q_big := q_m1 (List.mem_of_getElem? (i := 155) rfl) rfl
set_option maxRecDepth 20000 in
theorem mc_29 : (Cond.lays "SignalTheatre$Faults" "SignalTheatre$Faults" "number" "I" : Cond) ∈ q_big := q_m1 (List.mem_of_getElem? (i := 157) rfl) rfl
set_option maxRecDepth 20000 in
theorem mc_30 : (Cond.lays "SignalTheatre$Faults" "SignalTheatre$Faults" "place" "I" : Cond) ∈ q_big := q_m1 (List.mem_of_getElem? (i := 159) rfl) rfl
set_option maxRecDepth 20000 in
theorem mc_31 : (Cond.lays "SignalTheatre$Faults" "SignalTheatre$Faults" "foundNumber" "I" : Cond) ∈ q_big := q_m1 (List.mem_of_getElem? (i := 161) rfl) rfl
set_option maxRecDepth 20000 in
theorem mc_32 : (Cond.lays "SignalTheatre$Faults" "SignalTheatre$Faults" "foundPlace" "I" : Cond) ∈ q_big := q_m1 (List.mem_of_getElem? (i := 163) rfl) rfl
set_option maxRecDepth 20000 in
theorem mc_33 : (Cond.lays "SignalTheatre$Faults" "SignalTheatre$Faults" "hard" "Z" : Cond) ∈ q_big := q_m1 (List.mem_of_getElem? (i := 165) rfl) rfl
set_option maxRecDepth 20000 in
theorem mc_34 : (Cond.lays "SignalTheatre$Faults" "SignalTheatre$Faults" "on" "Z" : Cond) ∈ q_big := q_m1 (List.mem_of_getElem? (i := 167) rfl) rfl
set_option maxRecDepth 20000 in
theorem mc_35 : (Cond.laysFinal "SignalTheatre$Maker" "SignalTheatre$Maker" "tokens" "LSignalTheatre$Tokens;" : Cond) ∈ q_big := q_m1 (List.mem_of_getElem? (i := 235) rfl) rfl
set_option maxRecDepth 20000 in
theorem mc_36 : (Cond.laysFinal "SignalTheatre$Maker" "SignalTheatre$Maker" "faults" "LSignalTheatre$Faults;" : Cond) ∈ q_big := q_m1 (List.mem_of_getElem? (i := 237) rfl) rfl
set_option maxRecDepth 20000 in
theorem mc_37 : (Cond.laysFinal "SignalTheatre$Maker" "SignalTheatre$Maker" "worth" "LSignalTheatre$Worth;" : Cond) ∈ q_big := q_m1 (List.mem_of_getElem? (i := 239) rfl) rfl
set_option maxRecDepth 20000 in
theorem mc_38 : (Cond.lays "SignalTheatre$Maker" "SignalTheatre$Maker" "circuit" "LSignalTheatre$Circuit;" : Cond) ∈ q_big := q_m2 (List.mem_of_getElem? (i := 1) rfl) rfl
set_option maxRecDepth 20000 in
theorem mc_39 : (Cond.lays "SignalTheatre$Maker" "SignalTheatre$Maker" "code" "LSignalTheatre$Code;" : Cond) ∈ q_big := q_m2 (List.mem_of_getElem? (i := 3) rfl) rfl
set_option maxRecDepth 20000 in
theorem mc_40 : (Cond.lays "SignalTheatre$Maker" "SignalTheatre$Maker" "scope" "I" : Cond) ∈ q_big := q_m2 (List.mem_of_getElem? (i := 5) rfl) rfl
set_option maxRecDepth 20000 in
theorem mc_41 : (Cond.lays "SignalTheatre$Maker" "SignalTheatre$Maker" "on" "Z" : Cond) ∈ q_big := q_m2 (List.mem_of_getElem? (i := 7) rfl) rfl
set_option maxRecDepth 20000 in
theorem mc_42 : (Cond.lays "SignalTheatre$Maker" "SignalTheatre$Maker" "sound" "Z" : Cond) ∈ q_big := q_m2 (List.mem_of_getElem? (i := 9) rfl) rfl
set_option maxRecDepth 20000 in
theorem mc_43 : (Cond.lays "SignalTheatre$Maker" "SignalTheatre$Maker" "flaw" "I" : Cond) ∈ q_big := q_m2 (List.mem_of_getElem? (i := 11) rfl) rfl
set_option maxRecDepth 20000 in
theorem mc_44 : (Cond.lays "SignalTheatre$Maker" "SignalTheatre$Maker" "leftFrom" "I" : Cond) ∈ q_big := q_m2 (List.mem_of_getElem? (i := 13) rfl) rfl
set_option maxRecDepth 20000 in
theorem mc_45 : (Cond.lays "SignalTheatre$Maker" "SignalTheatre$Maker" "leftWidth" "I" : Cond) ∈ q_big := q_m2 (List.mem_of_getElem? (i := 15) rfl) rfl
set_option maxRecDepth 20000 in
theorem mc_46 : (Cond.laysFinal "SignalTheatre$Maker" "SignalTheatre$Maker" "head" "[I" : Cond) ∈ q_big := q_m2 (List.mem_of_getElem? (i := 17) rfl) rfl
set_option maxRecDepth 20000 in
theorem mc_47 : (Cond.laysFinal "SignalTheatre$Maker" "SignalTheatre$Maker" "symbolName" "[I" : Cond) ∈ q_big := q_m2 (List.mem_of_getElem? (i := 19) rfl) rfl
set_option maxRecDepth 20000 in
theorem mc_48 : (Cond.laysFinal "SignalTheatre$Maker" "SignalTheatre$Maker" "symbolScope" "[I" : Cond) ∈ q_big := q_m2 (List.mem_of_getElem? (i := 21) rfl) rfl
set_option maxRecDepth 20000 in
theorem mc_49 : (Cond.laysFinal "SignalTheatre$Maker" "SignalTheatre$Maker" "symbolSort" "[I" : Cond) ∈ q_big := q_m2 (List.mem_of_getElem? (i := 23) rfl) rfl
set_option maxRecDepth 20000 in
theorem mc_50 : (Cond.laysFinal "SignalTheatre$Maker" "SignalTheatre$Maker" "symbolWorth" "[I" : Cond) ∈ q_big := q_m2 (List.mem_of_getElem? (i := 25) rfl) rfl
set_option maxRecDepth 20000 in
theorem mc_51 : (Cond.laysFinal "SignalTheatre$Maker" "SignalTheatre$Maker" "symbolBelow" "[I" : Cond) ∈ q_big := q_m2 (List.mem_of_getElem? (i := 27) rfl) rfl
set_option maxRecDepth 20000 in
theorem mc_52 : (Cond.lays "SignalTheatre$Maker" "SignalTheatre$Maker" "symbols" "I" : Cond) ∈ q_big := q_m2 (List.mem_of_getElem? (i := 29) rfl) rfl
set_option maxRecDepth 20000 in
theorem mc_53 : (Cond.laysFinal "SignalTheatre$Worth" "SignalTheatre$Worth" "ones" "[J" : Cond) ∈ q_big := q_m1 (List.mem_of_getElem? (i := 187) rfl) rfl
set_option maxRecDepth 20000 in
theorem mc_54 : (Cond.laysFinal "SignalTheatre$Worth" "SignalTheatre$Worth" "unknown" "[J" : Cond) ∈ q_big := q_m1 (List.mem_of_getElem? (i := 189) rfl) rfl
set_option maxRecDepth 20000 in
theorem mc_55 : (Cond.lays "SignalTheatre$Worth" "SignalTheatre$Worth" "top" "I" : Cond) ∈ q_big := q_m1 (List.mem_of_getElem? (i := 191) rfl) rfl
set_option maxRecDepth 20000 in
theorem mc_56 : (Cond.lays "SignalTheatre$Worth" "SignalTheatre$Worth" "circuit" "LSignalTheatre$Circuit;" : Cond) ∈ q_big := q_m1 (List.mem_of_getElem? (i := 193) rfl) rfl
set_option maxRecDepth 20000 in
theorem mc_57 : (Cond.lays "SignalTheatre$Worth" "SignalTheatre$Worth" "code" "LSignalTheatre$Code;" : Cond) ∈ q_big := q_m1 (List.mem_of_getElem? (i := 195) rfl) rfl
set_option maxRecDepth 20000 in
theorem mc_58 : (Cond.lays "SignalTheatre$Worth" "SignalTheatre$Worth" "now" "J" : Cond) ∈ q_big := q_m1 (List.mem_of_getElem? (i := 197) rfl) rfl
set_option maxRecDepth 20000 in
theorem mc_59 : (Cond.lays "SignalTheatre$Worth" "SignalTheatre$Worth" "o" "J" : Cond) ∈ q_big := q_m1 (List.mem_of_getElem? (i := 199) rfl) rfl
set_option maxRecDepth 20000 in
theorem mc_60 : (Cond.lays "SignalTheatre$Worth" "SignalTheatre$Worth" "u" "J" : Cond) ∈ q_big := q_m1 (List.mem_of_getElem? (i := 201) rfl) rfl
set_option maxRecDepth 20000 in
theorem mc_61 : (Cond.laysFinal "SignalTheatre$Reader" "SignalTheatre$Reader" "tokens" "LSignalTheatre$Tokens;" : Cond) ∈ q_big := q_m2 (List.mem_of_getElem? (i := 50) rfl) rfl
set_option maxRecDepth 20000 in
theorem mc_62 : (Cond.laysFinal "SignalTheatre$Reader" "SignalTheatre$Reader" "faults" "LSignalTheatre$Faults;" : Cond) ∈ q_big := q_m2 (List.mem_of_getElem? (i := 52) rfl) rfl
set_option maxRecDepth 20000 in
theorem mc_63 : (Cond.laysFinal "SignalTheatre$Reader" "SignalTheatre$Reader" "maker" "LSignalTheatre$Maker;" : Cond) ∈ q_big := q_m2 (List.mem_of_getElem? (i := 54) rfl) rfl
set_option maxRecDepth 20000 in
theorem mc_64 : (Cond.laysFinal "SignalTheatre$Reader" "SignalTheatre$Reader" "waiting" "[I" : Cond) ∈ q_big := q_m2 (List.mem_of_getElem? (i := 56) rfl) rfl
set_option maxRecDepth 20000 in
theorem mc_65 : (Cond.lays "SignalTheatre$Reader" "SignalTheatre$Reader" "waitingCount" "I" : Cond) ∈ q_big := q_m2 (List.mem_of_getElem? (i := 58) rfl) rfl
set_option maxRecDepth 20000 in
theorem mc_66 : (Cond.lays "SignalTheatre$Reader" "SignalTheatre$Reader" "at" "I" : Cond) ∈ q_big := q_m2 (List.mem_of_getElem? (i := 60) rfl) rfl
set_option maxRecDepth 20000 in
theorem mc_67 : (Cond.lays "SignalTheatre$Reader" "SignalTheatre$Reader" "depth" "I" : Cond) ∈ q_big := q_m2 (List.mem_of_getElem? (i := 62) rfl) rfl
set_option maxRecDepth 20000 in
theorem mc_68 : (Cond.lays "SignalTheatre$Reader" "SignalTheatre$Reader" "high" "J" : Cond) ∈ q_big := q_m2 (List.mem_of_getElem? (i := 64) rfl) rfl
set_option maxRecDepth 20000 in
theorem mc_69 : (Cond.lays "SignalTheatre$Reader" "SignalTheatre$Reader" "low" "J" : Cond) ∈ q_big := q_m2 (List.mem_of_getElem? (i := 66) rfl) rfl
set_option maxRecDepth 20000 in
theorem mc_70 : (Cond.laysFinal "SignalTheatre$Circuit" "SignalTheatre$Circuit" "text" "[B" : Cond) ∈ q_big := q_m3 (List.mem_of_getElem? (i := 71) rfl) rfl
set_option maxRecDepth 20000 in
theorem mc_71 : (Cond.laysFinal "SignalTheatre$Circuit" "SignalTheatre$Circuit" "code" "LSignalTheatre$Code;" : Cond) ∈ q_big := q_m3 (List.mem_of_getElem? (i := 73) rfl) rfl
set_option maxRecDepth 20000 in
theorem mc_72 : (Cond.laysFinal "SignalTheatre$Circuit" "SignalTheatre$Circuit" "signals" "[LSignalTheatre$Signal;" : Cond) ∈ q_big := q_m3 (List.mem_of_getElem? (i := 75) rfl) rfl
set_option maxRecDepth 20000 in
theorem mc_73 : (Cond.lays "SignalTheatre$Circuit" "SignalTheatre$Circuit" "signalCount" "I" : Cond) ∈ q_big := q_m3 (List.mem_of_getElem? (i := 77) rfl) rfl
set_option maxRecDepth 20000 in
theorem mc_74 : (Cond.laysFinal "SignalTheatre$Circuit" "SignalTheatre$Circuit" "ones" "[J" : Cond) ∈ q_big := q_m3 (List.mem_of_getElem? (i := 79) rfl) rfl
set_option maxRecDepth 20000 in
theorem mc_75 : (Cond.laysFinal "SignalTheatre$Circuit" "SignalTheatre$Circuit" "unknown" "[J" : Cond) ∈ q_big := q_m3 (List.mem_of_getElem? (i := 81) rfl) rfl
set_option maxRecDepth 20000 in
theorem mc_76 : (Cond.lays "SignalTheatre$Circuit" "SignalTheatre$Circuit" "cells" "I" : Cond) ∈ q_big := q_m3 (List.mem_of_getElem? (i := 83) rfl) rfl
set_option maxRecDepth 20000 in
theorem mc_77 : (Cond.lays "SignalTheatre$Circuit" "SignalTheatre$Circuit" "words" "I" : Cond) ∈ q_big := q_m3 (List.mem_of_getElem? (i := 85) rfl) rfl
set_option maxRecDepth 20000 in
theorem mc_78 : (Cond.laysFinal "SignalTheatre$Circuit" "SignalTheatre$Circuit" "scopeAbove" "[I" : Cond) ∈ q_big := q_m3 (List.mem_of_getElem? (i := 87) rfl) rfl
set_option maxRecDepth 20000 in
theorem mc_79 : (Cond.laysFinal "SignalTheatre$Circuit" "SignalTheatre$Circuit" "scopePlace" "[I" : Cond) ∈ q_big := q_m3 (List.mem_of_getElem? (i := 89) rfl) rfl
set_option maxRecDepth 20000 in
theorem mc_80 : (Cond.laysFinal "SignalTheatre$Circuit" "SignalTheatre$Circuit" "scopeBytes" "[I" : Cond) ∈ q_big := q_m3 (List.mem_of_getElem? (i := 91) rfl) rfl
set_option maxRecDepth 20000 in
theorem mc_81 : (Cond.lays "SignalTheatre$Circuit" "SignalTheatre$Circuit" "scopes" "I" : Cond) ∈ q_big := q_m3 (List.mem_of_getElem? (i := 93) rfl) rfl
set_option maxRecDepth 20000 in
theorem mc_82 : (Cond.laysFinal "SignalTheatre$Circuit" "SignalTheatre$Circuit" "assignRoot" "[I" : Cond) ∈ q_big := q_m3 (List.mem_of_getElem? (i := 95) rfl) rfl
set_option maxRecDepth 20000 in
theorem mc_83 : (Cond.laysFinal "SignalTheatre$Circuit" "SignalTheatre$Circuit" "assignFrom" "[I" : Cond) ∈ q_big := q_m3 (List.mem_of_getElem? (i := 97) rfl) rfl
set_option maxRecDepth 20000 in
theorem mc_84 : (Cond.laysFinal "SignalTheatre$Circuit" "SignalTheatre$Circuit" "assignTo" "[I" : Cond) ∈ q_big := q_m3 (List.mem_of_getElem? (i := 99) rfl) rfl
set_option maxRecDepth 20000 in
theorem mc_85 : (Cond.lays "SignalTheatre$Circuit" "SignalTheatre$Circuit" "assigns" "I" : Cond) ∈ q_big := q_m3 (List.mem_of_getElem? (i := 101) rfl) rfl
set_option maxRecDepth 20000 in
theorem mc_86 : (Cond.laysFinal "SignalTheatre$Circuit" "SignalTheatre$Circuit" "processStart" "[I" : Cond) ∈ q_big := q_m3 (List.mem_of_getElem? (i := 103) rfl) rfl
set_option maxRecDepth 20000 in
theorem mc_87 : (Cond.lays "SignalTheatre$Circuit" "SignalTheatre$Circuit" "processes" "I" : Cond) ∈ q_big := q_m3 (List.mem_of_getElem? (i := 105) rfl) rfl
set_option maxRecDepth 20000 in
theorem mc_88 : (Cond.laysFinal "SignalTheatre$Circuit" "SignalTheatre$Circuit" "order" "[I" : Cond) ∈ q_big := q_m3 (List.mem_of_getElem? (i := 107) rfl) rfl
set_option maxRecDepth 20000 in
theorem mc_89 : (Cond.laysFinal "SignalTheatre$Circuit" "SignalTheatre$Circuit" "readers" "[J" : Cond) ∈ q_big := q_m3 (List.mem_of_getElem? (i := 109) rfl) rfl
set_option maxRecDepth 20000 in
theorem mc_90 : (Cond.laysFinal "SignalTheatre$Code" "SignalTheatre$Code" "op" "[I" : Cond) ∈ q_big := q_m2 (List.mem_of_getElem? (i := 140) rfl) rfl
set_option maxRecDepth 20000 in
theorem mc_91 : (Cond.laysFinal "SignalTheatre$Code" "SignalTheatre$Code" "arg" "[I" : Cond) ∈ q_big := q_m2 (List.mem_of_getElem? (i := 142) rfl) rfl
set_option maxRecDepth 20000 in
theorem mc_92 : (Cond.laysFinal "SignalTheatre$Code" "SignalTheatre$Code" "first" "[I" : Cond) ∈ q_big := q_m2 (List.mem_of_getElem? (i := 144) rfl) rfl
set_option maxRecDepth 20000 in
theorem mc_93 : (Cond.laysFinal "SignalTheatre$Code" "SignalTheatre$Code" "own" "[I" : Cond) ∈ q_big := q_m2 (List.mem_of_getElem? (i := 146) rfl) rfl
set_option maxRecDepth 20000 in
theorem mc_94 : (Cond.laysFinal "SignalTheatre$Code" "SignalTheatre$Code" "given" "[I" : Cond) ∈ q_big := q_m2 (List.mem_of_getElem? (i := 148) rfl) rfl
set_option maxRecDepth 20000 in
theorem mc_95 : (Cond.lays "SignalTheatre$Code" "SignalTheatre$Code" "nodes" "I" : Cond) ∈ q_big := q_m2 (List.mem_of_getElem? (i := 150) rfl) rfl
set_option maxRecDepth 20000 in
theorem mc_96 : (Cond.laysFinal "SignalTheatre$Code" "SignalTheatre$Code" "ones" "[J" : Cond) ∈ q_big := q_m2 (List.mem_of_getElem? (i := 152) rfl) rfl
set_option maxRecDepth 20000 in
theorem mc_97 : (Cond.laysFinal "SignalTheatre$Code" "SignalTheatre$Code" "unknown" "[J" : Cond) ∈ q_big := q_m2 (List.mem_of_getElem? (i := 154) rfl) rfl
set_option maxRecDepth 20000 in
theorem mc_98 : (Cond.lays "SignalTheatre$Code" "SignalTheatre$Code" "constants" "I" : Cond) ∈ q_big := q_m2 (List.mem_of_getElem? (i := 156) rfl) rfl
set_option maxRecDepth 20000 in
theorem mc_99 : (Cond.laysFinal "SignalTheatre$Code" "SignalTheatre$Code" "leftSignal" "[I" : Cond) ∈ q_big := q_m2 (List.mem_of_getElem? (i := 158) rfl) rfl
set_option maxRecDepth 20000 in
theorem mc_100 : (Cond.laysFinal "SignalTheatre$Code" "SignalTheatre$Code" "leftWay" "[I" : Cond) ∈ q_big := q_m2 (List.mem_of_getElem? (i := 160) rfl) rfl
set_option maxRecDepth 20000 in
theorem mc_101 : (Cond.laysFinal "SignalTheatre$Code" "SignalTheatre$Code" "leftIndex" "[I" : Cond) ∈ q_big := q_m2 (List.mem_of_getElem? (i := 162) rfl) rfl
set_option maxRecDepth 20000 in
theorem mc_102 : (Cond.laysFinal "SignalTheatre$Code" "SignalTheatre$Code" "leftWidth" "[I" : Cond) ∈ q_big := q_m2 (List.mem_of_getElem? (i := 164) rfl) rfl
set_option maxRecDepth 20000 in
theorem mc_103 : (Cond.laysFinal "SignalTheatre$Code" "SignalTheatre$Code" "driverNext" "[I" : Cond) ∈ q_big := q_m2 (List.mem_of_getElem? (i := 166) rfl) rfl
set_option maxRecDepth 20000 in
theorem mc_104 : (Cond.laysFinal "SignalTheatre$Code" "SignalTheatre$Code" "driverOnes" "[J" : Cond) ∈ q_big := q_m2 (List.mem_of_getElem? (i := 168) rfl) rfl
set_option maxRecDepth 20000 in
theorem mc_105 : (Cond.laysFinal "SignalTheatre$Code" "SignalTheatre$Code" "driverUnknown" "[J" : Cond) ∈ q_big := q_m2 (List.mem_of_getElem? (i := 170) rfl) rfl
set_option maxRecDepth 20000 in
theorem mc_106 : (Cond.lays "SignalTheatre$Code" "SignalTheatre$Code" "lefts" "I" : Cond) ∈ q_big := q_m2 (List.mem_of_getElem? (i := 172) rfl) rfl
set_option maxRecDepth 20000 in
theorem mc_107 : (Cond.laysFinal "SignalTheatre$Code" "SignalTheatre$Code" "line" "[I" : Cond) ∈ q_big := q_m2 (List.mem_of_getElem? (i := 174) rfl) rfl
set_option maxRecDepth 20000 in
theorem mc_108 : (Cond.lays "SignalTheatre$Code" "SignalTheatre$Code" "lines" "I" : Cond) ∈ q_big := q_m2 (List.mem_of_getElem? (i := 176) rfl) rfl
set_option maxRecDepth 20000 in
theorem mc_109 : (Cond.lays "SignalTheatre$Code" "SignalTheatre$Code" "counters" "I" : Cond) ∈ q_big := q_m2 (List.mem_of_getElem? (i := 178) rfl) rfl
set_option maxRecDepth 20000 in
theorem mc_110 : (Cond.lays "SignalTheatre$Signal" "SignalTheatre$Signal" "width" "I" : Cond) ∈ q_big := q_m2 (List.mem_of_getElem? (i := 233) rfl) rfl
set_option maxRecDepth 20000 in
theorem mc_111 : (Cond.lays "SignalTheatre$Signal" "SignalTheatre$Signal" "signed" "Z" : Cond) ∈ q_big := q_m2 (List.mem_of_getElem? (i := 235) rfl) rfl
set_option maxRecDepth 20000 in
theorem mc_112 : (Cond.lays "SignalTheatre$Signal" "SignalTheatre$Signal" "low" "I" : Cond) ∈ q_big := q_m2 (List.mem_of_getElem? (i := 237) rfl) rfl
set_option maxRecDepth 20000 in
theorem mc_113 : (Cond.lays "SignalTheatre$Signal" "SignalTheatre$Signal" "words" "I" : Cond) ∈ q_big := q_m2 (List.mem_of_getElem? (i := 239) rfl) rfl
set_option maxRecDepth 20000 in
theorem mc_114 : (Cond.lays "SignalTheatre$Signal" "SignalTheatre$Signal" "wordLow" "I" : Cond) ∈ q_big := q_m3 (List.mem_of_getElem? (i := 1) rfl) rfl
set_option maxRecDepth 20000 in
theorem mc_115 : (Cond.lays "SignalTheatre$Signal" "SignalTheatre$Signal" "sort" "I" : Cond) ∈ q_big := q_m3 (List.mem_of_getElem? (i := 3) rfl) rfl
set_option maxRecDepth 20000 in
theorem mc_116 : (Cond.lays "SignalTheatre$Signal" "SignalTheatre$Signal" "port" "I" : Cond) ∈ q_big := q_m3 (List.mem_of_getElem? (i := 5) rfl) rfl
set_option maxRecDepth 20000 in
theorem mc_117 : (Cond.lays "SignalTheatre$Signal" "SignalTheatre$Signal" "linked" "Z" : Cond) ∈ q_big := q_m3 (List.mem_of_getElem? (i := 7) rfl) rfl
set_option maxRecDepth 20000 in
theorem mc_118 : (Cond.lays "SignalTheatre$Signal" "SignalTheatre$Signal" "cell" "I" : Cond) ∈ q_big := q_m3 (List.mem_of_getElem? (i := 9) rfl) rfl
set_option maxRecDepth 20000 in
theorem mc_119 : (Cond.lays "SignalTheatre$Signal" "SignalTheatre$Signal" "scope" "I" : Cond) ∈ q_big := q_m3 (List.mem_of_getElem? (i := 11) rfl) rfl
set_option maxRecDepth 20000 in
theorem mc_120 : (Cond.lays "SignalTheatre$Signal" "SignalTheatre$Signal" "place" "I" : Cond) ∈ q_big := q_m3 (List.mem_of_getElem? (i := 13) rfl) rfl
set_option maxRecDepth 20000 in
theorem mc_121 : (Cond.lays "SignalTheatre$Signal" "SignalTheatre$Signal" "bytes" "I" : Cond) ∈ q_big := q_m3 (List.mem_of_getElem? (i := 15) rfl) rfl
set_option maxRecDepth 20000 in
theorem mc_122 : (Cond.lays "SignalTheatre$Signal" "SignalTheatre$Signal" "driver" "I" : Cond) ∈ q_big := q_m3 (List.mem_of_getElem? (i := 17) rfl) rfl
set_option maxRecDepth 20000 in
theorem mc_123 : (Cond.laysFinal "SignalTheatre$Builder" "SignalTheatre$Builder" "tokens" "LSignalTheatre$Tokens;" : Cond) ∈ q_big := q_m3 (List.mem_of_getElem? (i := 138) rfl) rfl
set_option maxRecDepth 20000 in
theorem mc_124 : (Cond.laysFinal "SignalTheatre$Builder" "SignalTheatre$Builder" "faults" "LSignalTheatre$Faults;" : Cond) ∈ q_big := q_m3 (List.mem_of_getElem? (i := 140) rfl) rfl
set_option maxRecDepth 20000 in
theorem mc_125 : (Cond.laysFinal "SignalTheatre$Builder" "SignalTheatre$Builder" "maker" "LSignalTheatre$Maker;" : Cond) ∈ q_big := q_m3 (List.mem_of_getElem? (i := 142) rfl) rfl
set_option maxRecDepth 20000 in
theorem mc_126 : (Cond.laysFinal "SignalTheatre$Builder" "SignalTheatre$Builder" "reader" "LSignalTheatre$Reader;" : Cond) ∈ q_big := q_m3 (List.mem_of_getElem? (i := 144) rfl) rfl
set_option maxRecDepth 20000 in
theorem mc_127 : (Cond.lays "SignalTheatre$Builder" "SignalTheatre$Builder" "circuit" "LSignalTheatre$Circuit;" : Cond) ∈ q_big := q_m3 (List.mem_of_getElem? (i := 146) rfl) rfl
set_option maxRecDepth 20000 in
theorem mc_128 : (Cond.laysFinal "SignalTheatre$Builder" "SignalTheatre$Builder" "mould" "LSignalTheatre$Signal;" : Cond) ∈ q_big := q_m3 (List.mem_of_getElem? (i := 148) rfl) rfl
set_option maxRecDepth 20000 in
theorem mc_129 : (Cond.laysFinal "SignalTheatre$Builder" "SignalTheatre$Builder" "moduleStart" "[I" : Cond) ∈ q_big := q_m3 (List.mem_of_getElem? (i := 150) rfl) rfl
set_option maxRecDepth 20000 in
theorem mc_130 : (Cond.laysFinal "SignalTheatre$Builder" "SignalTheatre$Builder" "moduleEnd" "[I" : Cond) ∈ q_big := q_m3 (List.mem_of_getElem? (i := 152) rfl) rfl
set_option maxRecDepth 20000 in
theorem mc_131 : (Cond.lays "SignalTheatre$Builder" "SignalTheatre$Builder" "modules" "I" : Cond) ∈ q_big := q_m3 (List.mem_of_getElem? (i := 154) rfl) rfl
set_option maxRecDepth 20000 in
theorem mc_132 : (Cond.laysFinal "SignalTheatre$Builder" "SignalTheatre$Builder" "instantiated" "[I" : Cond) ∈ q_big := q_m3 (List.mem_of_getElem? (i := 156) rfl) rfl
set_option maxRecDepth 20000 in
theorem mc_133 : (Cond.lays "SignalTheatre$Builder" "SignalTheatre$Builder" "inside" "Z" : Cond) ∈ q_big := q_m3 (List.mem_of_getElem? (i := 158) rfl) rfl
set_option maxRecDepth 20000 in
theorem mc_134 : (Cond.lays "SignalTheatre$Builder" "SignalTheatre$Builder" "done" "Z" : Cond) ∈ q_big := q_m3 (List.mem_of_getElem? (i := 160) rfl) rfl
set_option maxRecDepth 20000 in
theorem mc_135 : (Cond.laysFinal "SignalTheatre$Builder" "SignalTheatre$Builder" "backTo" "[I" : Cond) ∈ q_big := q_m3 (List.mem_of_getElem? (i := 162) rfl) rfl
set_option maxRecDepth 20000 in
theorem mc_136 : (Cond.laysFinal "SignalTheatre$Builder" "SignalTheatre$Builder" "scopeOutside" "[I" : Cond) ∈ q_big := q_m3 (List.mem_of_getElem? (i := 164) rfl) rfl
set_option maxRecDepth 20000 in
theorem mc_137 : (Cond.laysFinal "SignalTheatre$Builder" "SignalTheatre$Builder" "symbolsOutside" "[I" : Cond) ∈ q_big := q_m3 (List.mem_of_getElem? (i := 166) rfl) rfl
set_option maxRecDepth 20000 in
theorem mc_138 : (Cond.lays "SignalTheatre$Builder" "SignalTheatre$Builder" "deep" "I" : Cond) ∈ q_big := q_m3 (List.mem_of_getElem? (i := 168) rfl) rfl
set_option maxRecDepth 20000 in
theorem mc_139 : (Cond.lays "SignalTheatre$Builder" "SignalTheatre$Builder" "instances" "I" : Cond) ∈ q_big := q_m3 (List.mem_of_getElem? (i := 170) rfl) rfl
set_option maxRecDepth 20000 in
theorem mc_140 : (Cond.lays "SignalTheatre$Builder" "SignalTheatre$Builder" "tokensDone" "I" : Cond) ∈ q_big := q_m3 (List.mem_of_getElem? (i := 172) rfl) rfl
set_option maxRecDepth 20000 in
theorem mc_141 : (Cond.laysFinal "SignalTheatre$Stage" "SignalTheatre$Stage" "agenda" "LSignalTheatre$Agenda;" : Cond) ∈ q_big := q_m4 (List.mem_of_getElem? (i := 54) rfl) rfl
set_option maxRecDepth 20000 in
theorem mc_142 : (Cond.laysFinal "SignalTheatre$Stage" "SignalTheatre$Stage" "worth" "LSignalTheatre$Worth;" : Cond) ∈ q_big := q_m4 (List.mem_of_getElem? (i := 56) rfl) rfl
set_option maxRecDepth 20000 in
theorem mc_143 : (Cond.laysFinal "SignalTheatre$Stage" "SignalTheatre$Stage" "book" "LSignalTheatre$Book;" : Cond) ∈ q_big := q_m4 (List.mem_of_getElem? (i := 58) rfl) rfl
set_option maxRecDepth 20000 in
theorem mc_144 : (Cond.lays "SignalTheatre$Stage" "SignalTheatre$Stage" "circuit" "LSignalTheatre$Circuit;" : Cond) ∈ q_big := q_m4 (List.mem_of_getElem? (i := 60) rfl) rfl
set_option maxRecDepth 20000 in
theorem mc_145 : (Cond.lays "SignalTheatre$Stage" "SignalTheatre$Stage" "code" "LSignalTheatre$Code;" : Cond) ∈ q_big := q_m4 (List.mem_of_getElem? (i := 62) rfl) rfl
set_option maxRecDepth 20000 in
theorem mc_146 : (Cond.laysFinal "SignalTheatre$Stage" "SignalTheatre$Stage" "line" "[I" : Cond) ∈ q_big := q_m4 (List.mem_of_getElem? (i := 64) rfl) rfl
set_option maxRecDepth 20000 in
theorem mc_147 : (Cond.laysFinal "SignalTheatre$Stage" "SignalTheatre$Stage" "heldOnes" "[J" : Cond) ∈ q_big := q_m4 (List.mem_of_getElem? (i := 66) rfl) rfl
set_option maxRecDepth 20000 in
theorem mc_148 : (Cond.laysFinal "SignalTheatre$Stage" "SignalTheatre$Stage" "heldUnknown" "[J" : Cond) ∈ q_big := q_m4 (List.mem_of_getElem? (i := 68) rfl) rfl
set_option maxRecDepth 20000 in
theorem mc_149 : (Cond.laysFinal "SignalTheatre$Stage" "SignalTheatre$Stage" "events" "[I" : Cond) ∈ q_big := q_m4 (List.mem_of_getElem? (i := 70) rfl) rfl
set_option maxRecDepth 20000 in
theorem mc_150 : (Cond.laysFinal "SignalTheatre$Stage" "SignalTheatre$Stage" "heeded" "[J" : Cond) ∈ q_big := q_m4 (List.mem_of_getElem? (i := 72) rfl) rfl
set_option maxRecDepth 20000 in
theorem mc_151 : (Cond.laysFinal "SignalTheatre$Stage" "SignalTheatre$Stage" "waiting" "[I" : Cond) ∈ q_big := q_m4 (List.mem_of_getElem? (i := 74) rfl) rfl
set_option maxRecDepth 20000 in
theorem mc_152 : (Cond.lays "SignalTheatre$Stage" "SignalTheatre$Stage" "waitingCount" "I" : Cond) ∈ q_big := q_m4 (List.mem_of_getElem? (i := 76) rfl) rfl
set_option maxRecDepth 20000 in
theorem mc_153 : (Cond.laysFinal "SignalTheatre$Stage" "SignalTheatre$Stage" "counters" "[J" : Cond) ∈ q_big := q_m4 (List.mem_of_getElem? (i := 78) rfl) rfl
set_option maxRecDepth 20000 in
theorem mc_154 : (Cond.lays "SignalTheatre$Stage" "SignalTheatre$Stage" "midst" "I" : Cond) ∈ q_big := q_m4 (List.mem_of_getElem? (i := 80) rfl) rfl
set_option maxRecDepth 20000 in
theorem mc_155 : (Cond.lays "SignalTheatre$Stage" "SignalTheatre$Stage" "over" "I" : Cond) ∈ q_big := q_m4 (List.mem_of_getElem? (i := 82) rfl) rfl
set_option maxRecDepth 20000 in
theorem mc_156 : (Cond.lays "SignalTheatre$Stage" "SignalTheatre$Stage" "left" "I" : Cond) ∈ q_big := q_m4 (List.mem_of_getElem? (i := 84) rfl) rfl
set_option maxRecDepth 20000 in
theorem mc_157 : (Cond.lays "SignalTheatre$Stage" "SignalTheatre$Stage" "cost" "I" : Cond) ∈ q_big := q_m4 (List.mem_of_getElem? (i := 86) rfl) rfl
set_option maxRecDepth 20000 in
theorem mc_158 : (Cond.lays "SignalTheatre$Stage" "SignalTheatre$Stage" "end" "I" : Cond) ∈ q_big := q_m4 (List.mem_of_getElem? (i := 88) rfl) rfl
set_option maxRecDepth 20000 in
theorem mc_159 : (Cond.lays "SignalTheatre$Agenda" "SignalTheatre$Agenda" "now" "J" : Cond) ∈ q_big := q_m3 (List.mem_of_getElem? (i := 208) rfl) rfl
set_option maxRecDepth 20000 in
theorem mc_160 : (Cond.laysFinal "SignalTheatre$Agenda" "SignalTheatre$Agenda" "next" "[I" : Cond) ∈ q_big := q_m3 (List.mem_of_getElem? (i := 210) rfl) rfl
set_option maxRecDepth 20000 in
theorem mc_161 : (Cond.laysFinal "SignalTheatre$Agenda" "SignalTheatre$Agenda" "head" "[I" : Cond) ∈ q_big := q_m3 (List.mem_of_getElem? (i := 212) rfl) rfl
set_option maxRecDepth 20000 in
theorem mc_162 : (Cond.laysFinal "SignalTheatre$Agenda" "SignalTheatre$Agenda" "tail" "[I" : Cond) ∈ q_big := q_m3 (List.mem_of_getElem? (i := 214) rfl) rfl
set_option maxRecDepth 20000 in
theorem mc_163 : (Cond.laysFinal "SignalTheatre$Agenda" "SignalTheatre$Agenda" "size" "[I" : Cond) ∈ q_big := q_m3 (List.mem_of_getElem? (i := 216) rfl) rfl
set_option maxRecDepth 20000 in
theorem mc_164 : (Cond.laysFinal "SignalTheatre$Agenda" "SignalTheatre$Agenda" "due" "[J" : Cond) ∈ q_big := q_m3 (List.mem_of_getElem? (i := 218) rfl) rfl
set_option maxRecDepth 20000 in
theorem mc_165 : (Cond.laysFinal "SignalTheatre$Agenda" "SignalTheatre$Agenda" "rank" "[J" : Cond) ∈ q_big := q_m3 (List.mem_of_getElem? (i := 220) rfl) rfl
set_option maxRecDepth 20000 in
theorem mc_166 : (Cond.laysFinal "SignalTheatre$Agenda" "SignalTheatre$Agenda" "event" "[I" : Cond) ∈ q_big := q_m3 (List.mem_of_getElem? (i := 222) rfl) rfl
set_option maxRecDepth 20000 in
theorem mc_167 : (Cond.lays "SignalTheatre$Agenda" "SignalTheatre$Agenda" "future" "I" : Cond) ∈ q_big := q_m3 (List.mem_of_getElem? (i := 224) rfl) rfl
set_option maxRecDepth 20000 in
theorem mc_168 : (Cond.lays "SignalTheatre$Agenda" "SignalTheatre$Agenda" "ranks" "J" : Cond) ∈ q_big := q_m3 (List.mem_of_getElem? (i := 226) rfl) rfl
set_option maxRecDepth 20000 in
theorem mc_169 : (Cond.lays "SignalTheatre$Agenda" "SignalTheatre$Agenda" "settings" "I" : Cond) ∈ q_big := q_m3 (List.mem_of_getElem? (i := 228) rfl) rfl
set_option maxRecDepth 20000 in
theorem mc_170 : (Cond.laysFinal "SignalTheatre$Agenda" "SignalTheatre$Agenda" "signal" "[I" : Cond) ∈ q_big := q_m3 (List.mem_of_getElem? (i := 230) rfl) rfl
set_option maxRecDepth 20000 in
theorem mc_171 : (Cond.laysFinal "SignalTheatre$Agenda" "SignalTheatre$Agenda" "spot" "[I" : Cond) ∈ q_big := q_m3 (List.mem_of_getElem? (i := 232) rfl) rfl
set_option maxRecDepth 20000 in
theorem mc_172 : (Cond.laysFinal "SignalTheatre$Agenda" "SignalTheatre$Agenda" "width" "[I" : Cond) ∈ q_big := q_m3 (List.mem_of_getElem? (i := 234) rfl) rfl
set_option maxRecDepth 20000 in
theorem mc_173 : (Cond.laysFinal "SignalTheatre$Agenda" "SignalTheatre$Agenda" "ones" "[J" : Cond) ∈ q_big := q_m3 (List.mem_of_getElem? (i := 236) rfl) rfl
set_option maxRecDepth 20000 in
theorem mc_174 : (Cond.laysFinal "SignalTheatre$Agenda" "SignalTheatre$Agenda" "unknown" "[J" : Cond) ∈ q_big := q_m3 (List.mem_of_getElem? (i := 238) rfl) rfl
set_option maxRecDepth 20000 in
theorem mc_175 : (Cond.laysFinal "SignalTheatre$Book" "SignalTheatre$Book" "bytes" "[B" : Cond) ∈ q_big := q_m4 (List.mem_of_getElem? (i := 17) rfl) rfl
set_option maxRecDepth 20000 in
theorem mc_176 : (Cond.lays "SignalTheatre$Book" "SignalTheatre$Book" "size" "I" : Cond) ∈ q_big := q_m4 (List.mem_of_getElem? (i := 19) rfl) rfl
set_option maxRecDepth 20000 in
theorem mc_177 : (Cond.laysFinal "SignalTheatre$Book" "SignalTheatre$Book" "string" "[B" : Cond) ∈ q_big := q_m4 (List.mem_of_getElem? (i := 21) rfl) rfl
set_option maxRecDepth 20000 in
theorem mc_178 : (Cond.laysFinal "SignalTheatre$Book" "SignalTheatre$Book" "digits" "[I" : Cond) ∈ q_big := q_m4 (List.mem_of_getElem? (i := 23) rfl) rfl
set_option maxRecDepth 20000 in
theorem mc_179 : (Cond.laysFinal "SignalTheatre$Book" "SignalTheatre$Book" "worth" "LSignalTheatre$Worth;" : Cond) ∈ q_big := q_m4 (List.mem_of_getElem? (i := 25) rfl) rfl
set_option maxRecDepth 20000 in
theorem mc_180 : (Cond.lays "SignalTheatre$Book" "SignalTheatre$Book" "circuit" "LSignalTheatre$Circuit;" : Cond) ∈ q_big := q_m4 (List.mem_of_getElem? (i := 27) rfl) rfl
set_option maxRecDepth 20000 in
theorem mc_181 : (Cond.laysFinal "SignalTheatreModel" "SignalTheatreModel" "input" "[B" : Cond) ∈ q_big := q_m13 (List.mem_of_getElem? (i := 179) rfl) rfl
set_option maxRecDepth 20000 in
theorem mc_182 : (Cond.lays "SignalTheatreModel" "SignalTheatreModel" "size" "I" : Cond) ∈ q_big := q_m13 (List.mem_of_getElem? (i := 181) rfl) rfl
set_option maxRecDepth 20000 in
theorem mc_183 : (Cond.lays "SignalTheatreModel" "SignalTheatreModel" "thrown" "I" : Cond) ∈ q_big := q_m13 (List.mem_of_getElem? (i := 183) rfl) rfl
set_option maxRecDepth 20000 in
theorem mc_184 : (Cond.lays "SignalTheatreModel" "SignalTheatreModel" "faultNumber" "I" : Cond) ∈ q_big := q_m13 (List.mem_of_getElem? (i := 185) rfl) rfl
set_option maxRecDepth 20000 in
theorem mc_185 : (Cond.lays "SignalTheatreModel" "SignalTheatreModel" "faultPlace" "I" : Cond) ∈ q_big := q_m13 (List.mem_of_getElem? (i := 187) rfl) rfl
set_option maxRecDepth 20000 in
theorem mc_186 : (Cond.laysFinal "SignalTheatreModel" "SignalTheatreModel" "tree" "LSignalTheatreModel$Tree;" : Cond) ∈ q_big := q_m13 (List.mem_of_getElem? (i := 189) rfl) rfl
set_option maxRecDepth 20000 in
theorem mc_187 : (Cond.laysFinal "SignalTheatreModel" "SignalTheatreModel" "other" "LSignalTheatreModel$Tree;" : Cond) ∈ q_big := q_m13 (List.mem_of_getElem? (i := 191) rfl) rfl
set_option maxRecDepth 20000 in
theorem mc_188 : (Cond.lays "SignalTheatreModel" "SignalTheatreModel" "now" "LSignalTheatreModel$Tree;" : Cond) ∈ q_big := q_m13 (List.mem_of_getElem? (i := 193) rfl) rfl
set_option maxRecDepth 20000 in
theorem mc_189 : (Cond.lays "SignalTheatreModel" "SignalTheatreModel" "spare" "LSignalTheatreModel$Tree;" : Cond) ∈ q_big := q_m13 (List.mem_of_getElem? (i := 195) rfl) rfl
set_option maxRecDepth 20000 in
theorem mc_190 : (Cond.lays "SignalTheatreModel" "SignalTheatreModel" "circuit" "LSignalTheatreModel$Circuit;" : Cond) ∈ q_big := q_m13 (List.mem_of_getElem? (i := 197) rfl) rfl
set_option maxRecDepth 20000 in
theorem mc_191 : (Cond.lays "SignalTheatreModel" "SignalTheatreModel" "old" "LSignalTheatreModel$Circuit;" : Cond) ∈ q_big := q_m13 (List.mem_of_getElem? (i := 199) rfl) rfl
set_option maxRecDepth 20000 in
theorem mc_192 : (Cond.laysFinal "SignalTheatreModel$Tree" "SignalTheatreModel$Tree" "cut" "LSignalTheatreModel$Cut;" : Cond) ∈ q_big := q_m12 (List.mem_of_getElem? (i := 6) rfl) rfl
set_option maxRecDepth 20000 in
theorem mc_193 : (Cond.laysFinal "SignalTheatreModel$Tree" "SignalTheatreModel$Tree" "sort" "[I" : Cond) ∈ q_big := q_m12 (List.mem_of_getElem? (i := 8) rfl) rfl
set_option maxRecDepth 20000 in
theorem mc_194 : (Cond.laysFinal "SignalTheatreModel$Tree" "SignalTheatreModel$Tree" "a" "[I" : Cond) ∈ q_big := q_m12 (List.mem_of_getElem? (i := 10) rfl) rfl
set_option maxRecDepth 20000 in
theorem mc_195 : (Cond.laysFinal "SignalTheatreModel$Tree" "SignalTheatreModel$Tree" "b" "[I" : Cond) ∈ q_big := q_m12 (List.mem_of_getElem? (i := 12) rfl) rfl
set_option maxRecDepth 20000 in
theorem mc_196 : (Cond.laysFinal "SignalTheatreModel$Tree" "SignalTheatreModel$Tree" "c" "[I" : Cond) ∈ q_big := q_m12 (List.mem_of_getElem? (i := 14) rfl) rfl
set_option maxRecDepth 20000 in
theorem mc_197 : (Cond.laysFinal "SignalTheatreModel$Tree" "SignalTheatreModel$Tree" "d" "[I" : Cond) ∈ q_big := q_m12 (List.mem_of_getElem? (i := 16) rfl) rfl
set_option maxRecDepth 20000 in
theorem mc_198 : (Cond.laysFinal "SignalTheatreModel$Tree" "SignalTheatreModel$Tree" "next" "[I" : Cond) ∈ q_big := q_m12 (List.mem_of_getElem? (i := 18) rfl) rfl
set_option maxRecDepth 20000 in
theorem mc_199 : (Cond.laysFinal "SignalTheatreModel$Tree" "SignalTheatreModel$Tree" "token" "[I" : Cond) ∈ q_big := q_m12 (List.mem_of_getElem? (i := 20) rfl) rfl
set_option maxRecDepth 20000 in
theorem mc_200 : (Cond.laysFinal "SignalTheatreModel$Tree" "SignalTheatreModel$Tree" "low" "[I" : Cond) ∈ q_big := q_m12 (List.mem_of_getElem? (i := 22) rfl) rfl
set_option maxRecDepth 20000 in
theorem mc_201 : (Cond.laysFinal "SignalTheatreModel$Tree" "SignalTheatreModel$Tree" "first" "[I" : Cond) ∈ q_big := q_m12 (List.mem_of_getElem? (i := 24) rfl) rfl
set_option maxRecDepth 20000 in
theorem mc_202 : (Cond.lays "SignalTheatreModel$Tree" "SignalTheatreModel$Tree" "nodes" "I" : Cond) ∈ q_big := q_m12 (List.mem_of_getElem? (i := 26) rfl) rfl
set_option maxRecDepth 20000 in
theorem mc_203 : (Cond.lays "SignalTheatreModel$Tree" "SignalTheatreModel$Tree" "modules" "I" : Cond) ∈ q_big := q_m12 (List.mem_of_getElem? (i := 28) rfl) rfl
set_option maxRecDepth 20000 in
theorem mc_204 : (Cond.lays "SignalTheatreModel$Tree" "SignalTheatreModel$Tree" "at" "I" : Cond) ∈ q_big := q_m12 (List.mem_of_getElem? (i := 30) rfl) rfl
set_option maxRecDepth 20000 in
theorem mc_205 : (Cond.lays "SignalTheatreModel$Tree" "SignalTheatreModel$Tree" "depth" "I" : Cond) ∈ q_big := q_m12 (List.mem_of_getElem? (i := 32) rfl) rfl
set_option maxRecDepth 20000 in
theorem mc_206 : (Cond.laysFinal "SignalTheatreModel$Tree" "SignalTheatreModel$Tree" "wrong" "LSignalTheatreModel$Wrong;" : Cond) ∈ q_big := q_m12 (List.mem_of_getElem? (i := 34) rfl) rfl
set_option maxRecDepth 20000 in
theorem mc_207 : (Cond.laysFinal "SignalTheatreModel$Cut" "SignalTheatreModel$Cut" "text" "[B" : Cond) ∈ q_big := q_m11 (List.mem_of_getElem? (i := 157) rfl) rfl
set_option maxRecDepth 20000 in
theorem mc_208 : (Cond.lays "SignalTheatreModel$Cut" "SignalTheatreModel$Cut" "size" "I" : Cond) ∈ q_big := q_m11 (List.mem_of_getElem? (i := 159) rfl) rfl
set_option maxRecDepth 20000 in
theorem mc_209 : (Cond.lays "SignalTheatreModel$Cut" "SignalTheatreModel$Cut" "many" "I" : Cond) ∈ q_big := q_m11 (List.mem_of_getElem? (i := 161) rfl) rfl
set_option maxRecDepth 20000 in
theorem mc_210 : (Cond.lays "SignalTheatreModel$Cut" "SignalTheatreModel$Cut" "at" "I" : Cond) ∈ q_big := q_m11 (List.mem_of_getElem? (i := 163) rfl) rfl
set_option maxRecDepth 20000 in
theorem mc_211 : (Cond.laysFinal "SignalTheatreModel$Cut" "SignalTheatreModel$Cut" "kind" "[I" : Cond) ∈ q_big := q_m11 (List.mem_of_getElem? (i := 165) rfl) rfl
set_option maxRecDepth 20000 in
theorem mc_212 : (Cond.laysFinal "SignalTheatreModel$Cut" "SignalTheatreModel$Cut" "from" "[I" : Cond) ∈ q_big := q_m11 (List.mem_of_getElem? (i := 167) rfl) rfl
set_option maxRecDepth 20000 in
theorem mc_213 : (Cond.laysFinal "SignalTheatreModel$Cut" "SignalTheatreModel$Cut" "to" "[I" : Cond) ∈ q_big := q_m11 (List.mem_of_getElem? (i := 169) rfl) rfl
set_option maxRecDepth 20000 in
theorem mc_214 : (Cond.laysFinal "SignalTheatreModel$Cut" "SignalTheatreModel$Cut" "width" "[I" : Cond) ∈ q_big := q_m11 (List.mem_of_getElem? (i := 171) rfl) rfl
set_option maxRecDepth 20000 in
theorem mc_215 : (Cond.laysFinal "SignalTheatreModel$Cut" "SignalTheatreModel$Cut" "ones" "[J" : Cond) ∈ q_big := q_m11 (List.mem_of_getElem? (i := 173) rfl) rfl
set_option maxRecDepth 20000 in
theorem mc_216 : (Cond.laysFinal "SignalTheatreModel$Cut" "SignalTheatreModel$Cut" "unknown" "[J" : Cond) ∈ q_big := q_m11 (List.mem_of_getElem? (i := 175) rfl) rfl
set_option maxRecDepth 20000 in
theorem mc_217 : (Cond.laysFinal "SignalTheatreModel$Cut" "SignalTheatreModel$Cut" "signed" "[Z" : Cond) ∈ q_big := q_m11 (List.mem_of_getElem? (i := 177) rfl) rfl
set_option maxRecDepth 20000 in
theorem mc_218 : (Cond.lays "SignalTheatreModel$Cut" "SignalTheatreModel$Cut" "broken" "Z" : Cond) ∈ q_big := q_m11 (List.mem_of_getElem? (i := 179) rfl) rfl
set_option maxRecDepth 20000 in
theorem mc_219 : (Cond.lays "SignalTheatreModel$Cut" "SignalTheatreModel$Cut" "value" "J" : Cond) ∈ q_big := q_m11 (List.mem_of_getElem? (i := 181) rfl) rfl
set_option maxRecDepth 20000 in
theorem mc_220 : (Cond.lays "SignalTheatreModel$Cut" "SignalTheatreModel$Cut" "gone" "J" : Cond) ∈ q_big := q_m11 (List.mem_of_getElem? (i := 183) rfl) rfl
set_option maxRecDepth 20000 in
theorem mc_221 : (Cond.lays "SignalTheatreModel$Cut" "SignalTheatreModel$Cut" "open" "J" : Cond) ∈ q_big := q_m11 (List.mem_of_getElem? (i := 185) rfl) rfl
set_option maxRecDepth 20000 in
theorem mc_222 : (Cond.lays "SignalTheatreModel$Cut" "SignalTheatreModel$Cut" "told" "I" : Cond) ∈ q_big := q_m11 (List.mem_of_getElem? (i := 187) rfl) rfl
set_option maxRecDepth 20000 in
theorem mc_223 : (Cond.lays "SignalTheatreModel$Cut" "SignalTheatreModel$Cut" "highest" "I" : Cond) ∈ q_big := q_m11 (List.mem_of_getElem? (i := 189) rfl) rfl
set_option maxRecDepth 20000 in
theorem mc_224 : (Cond.lays "SignalTheatreModel$Wrong" "java/lang/Throwable" "cause" "Ljava/lang/Throwable;" : Cond) ∈ q_big := q_m11 (List.mem_of_getElem? (i := 198) rfl) rfl
set_option maxRecDepth 20000 in
theorem mc_225 : (Cond.lays "SignalTheatreModel$Wrong" "java/lang/Throwable" "stackTrace" "[Ljava/lang/StackTraceElement;" : Cond) ∈ q_big := q_m11 (List.mem_of_getElem? (i := 199) rfl) rfl
set_option maxRecDepth 20000 in
theorem mc_226 : (Cond.lays "SignalTheatreModel$Wrong" "java/lang/Throwable" "suppressedExceptions" "Ljava/util/List;" : Cond) ∈ q_big := q_m11 (List.mem_of_getElem? (i := 200) rfl) rfl
set_option maxRecDepth 20000 in
theorem mc_227 : (Cond.lays "SignalTheatreModel$Wrong" "java/lang/Throwable" "detailMessage" "Ljava/lang/String;" : Cond) ∈ q_big := q_m11 (List.mem_of_getElem? (i := 201) rfl) rfl
set_option maxRecDepth 20000 in
theorem mc_228 : (Cond.lays "SignalTheatreModel$Wrong" "java/lang/Throwable" "backtrace" "Ljava/lang/Object;" : Cond) ∈ q_big := q_m11 (List.mem_of_getElem? (i := 202) rfl) rfl
set_option maxRecDepth 20000 in
theorem mc_229 : (Cond.lays "SignalTheatreModel$Wrong" "SignalTheatreModel$Wrong" "number" "I" : Cond) ∈ q_big := q_m11 (List.mem_of_getElem? (i := 213) rfl) rfl
set_option maxRecDepth 20000 in
theorem mc_230 : (Cond.lays "SignalTheatreModel$Wrong" "SignalTheatreModel$Wrong" "place" "I" : Cond) ∈ q_big := q_m11 (List.mem_of_getElem? (i := 215) rfl) rfl
set_option maxRecDepth 20000 in
theorem mc_231 : (Cond.lays "SignalTheatreModel$Wrong" "java/lang/Throwable" "depth" "I" : Cond) ∈ q_big := q_m11 (List.mem_of_getElem? (i := 217) rfl) rfl
set_option maxRecDepth 20000 in
theorem mc_232 : (Cond.lays "SignalTheatreModel$Circuit" "SignalTheatreModel$Circuit" "tree" "LSignalTheatreModel$Tree;" : Cond) ∈ q_big := q_m12 (List.mem_of_getElem? (i := 207) rfl) rfl
set_option maxRecDepth 20000 in
theorem mc_233 : (Cond.lays "SignalTheatreModel$Circuit" "SignalTheatreModel$Circuit" "there" "Z" : Cond) ∈ q_big := q_m12 (List.mem_of_getElem? (i := 209) rfl) rfl
set_option maxRecDepth 20000 in
theorem mc_234 : (Cond.laysFinal "SignalTheatreModel$Circuit" "SignalTheatreModel$Circuit" "instModule" "[I" : Cond) ∈ q_big := q_m12 (List.mem_of_getElem? (i := 211) rfl) rfl
set_option maxRecDepth 20000 in
theorem mc_235 : (Cond.laysFinal "SignalTheatreModel$Circuit" "SignalTheatreModel$Circuit" "instAround" "[I" : Cond) ∈ q_big := q_m12 (List.mem_of_getElem? (i := 213) rfl) rfl
set_option maxRecDepth 20000 in
theorem mc_236 : (Cond.laysFinal "SignalTheatreModel$Circuit" "SignalTheatreModel$Circuit" "instName" "[I" : Cond) ∈ q_big := q_m12 (List.mem_of_getElem? (i := 215) rfl) rfl
set_option maxRecDepth 20000 in
theorem mc_237 : (Cond.laysFinal "SignalTheatreModel$Circuit" "SignalTheatreModel$Circuit" "instDeep" "[I" : Cond) ∈ q_big := q_m12 (List.mem_of_getElem? (i := 217) rfl) rfl
set_option maxRecDepth 20000 in
theorem mc_238 : (Cond.laysFinal "SignalTheatreModel$Circuit" "SignalTheatreModel$Circuit" "instFirst" "[I" : Cond) ∈ q_big := q_m12 (List.mem_of_getElem? (i := 219) rfl) rfl
set_option maxRecDepth 20000 in
theorem mc_239 : (Cond.lays "SignalTheatreModel$Circuit" "SignalTheatreModel$Circuit" "instances" "I" : Cond) ∈ q_big := q_m12 (List.mem_of_getElem? (i := 221) rfl) rfl
set_option maxRecDepth 20000 in
theorem mc_240 : (Cond.lays "SignalTheatreModel$Circuit" "SignalTheatreModel$Circuit" "tokens" "I" : Cond) ∈ q_big := q_m12 (List.mem_of_getElem? (i := 223) rfl) rfl
set_option maxRecDepth 20000 in
theorem mc_241 : (Cond.lays "SignalTheatreModel$Circuit" "SignalTheatreModel$Circuit" "symToken" "[I" : Cond) ∈ q_big := q_m12 (List.mem_of_getElem? (i := 225) rfl) rfl
set_option maxRecDepth 20000 in
theorem mc_242 : (Cond.lays "SignalTheatreModel$Circuit" "SignalTheatreModel$Circuit" "symSort" "[I" : Cond) ∈ q_big := q_m12 (List.mem_of_getElem? (i := 227) rfl) rfl
set_option maxRecDepth 20000 in
theorem mc_243 : (Cond.lays "SignalTheatreModel$Circuit" "SignalTheatreModel$Circuit" "symIndex" "[I" : Cond) ∈ q_big := q_m12 (List.mem_of_getElem? (i := 229) rfl) rfl
set_option maxRecDepth 20000 in
theorem mc_244 : (Cond.lays "SignalTheatreModel$Circuit" "SignalTheatreModel$Circuit" "symNext" "[I" : Cond) ∈ q_big := q_m12 (List.mem_of_getElem? (i := 231) rfl) rfl
set_option maxRecDepth 20000 in
theorem mc_245 : (Cond.lays "SignalTheatreModel$Circuit" "SignalTheatreModel$Circuit" "symbols" "I" : Cond) ∈ q_big := q_m12 (List.mem_of_getElem? (i := 233) rfl) rfl
set_option maxRecDepth 20000 in
theorem mc_246 : (Cond.laysFinal "SignalTheatreModel$Circuit" "SignalTheatreModel$Circuit" "varToken" "[I" : Cond) ∈ q_big := q_m12 (List.mem_of_getElem? (i := 235) rfl) rfl
set_option maxRecDepth 20000 in
theorem mc_247 : (Cond.laysFinal "SignalTheatreModel$Circuit" "SignalTheatreModel$Circuit" "varInst" "[I" : Cond) ∈ q_big := q_m12 (List.mem_of_getElem? (i := 237) rfl) rfl
set_option maxRecDepth 20000 in
theorem mc_248 : (Cond.laysFinal "SignalTheatreModel$Circuit" "SignalTheatreModel$Circuit" "varWidth" "[I" : Cond) ∈ q_big := q_m12 (List.mem_of_getElem? (i := 239) rfl) rfl
set_option maxRecDepth 20000 in
theorem mc_249 : (Cond.laysFinal "SignalTheatreModel$Circuit" "SignalTheatreModel$Circuit" "varLow" "[I" : Cond) ∈ q_big := q_m13 (List.mem_of_getElem? (i := 1) rfl) rfl
set_option maxRecDepth 20000 in
theorem mc_250 : (Cond.laysFinal "SignalTheatreModel$Circuit" "SignalTheatreModel$Circuit" "varWords" "[I" : Cond) ∈ q_big := q_m13 (List.mem_of_getElem? (i := 3) rfl) rfl
set_option maxRecDepth 20000 in
theorem mc_251 : (Cond.laysFinal "SignalTheatreModel$Circuit" "SignalTheatreModel$Circuit" "varWordLow" "[I" : Cond) ∈ q_big := q_m13 (List.mem_of_getElem? (i := 5) rfl) rfl
set_option maxRecDepth 20000 in
theorem mc_252 : (Cond.laysFinal "SignalTheatreModel$Circuit" "SignalTheatreModel$Circuit" "varKind" "[I" : Cond) ∈ q_big := q_m13 (List.mem_of_getElem? (i := 7) rfl) rfl
set_option maxRecDepth 20000 in
theorem mc_253 : (Cond.laysFinal "SignalTheatreModel$Circuit" "SignalTheatreModel$Circuit" "varAt" "[I" : Cond) ∈ q_big := q_m13 (List.mem_of_getElem? (i := 9) rfl) rfl
set_option maxRecDepth 20000 in
theorem mc_254 : (Cond.laysFinal "SignalTheatreModel$Circuit" "SignalTheatreModel$Circuit" "varSigned" "[Z" : Cond) ∈ q_big := q_m13 (List.mem_of_getElem? (i := 11) rfl) rfl
set_option maxRecDepth 20000 in
theorem mc_255 : (Cond.laysFinal "SignalTheatreModel$Circuit" "SignalTheatreModel$Circuit" "varRange" "[Z" : Cond) ∈ q_big := q_m13 (List.mem_of_getElem? (i := 13) rfl) rfl
set_option maxRecDepth 20000 in
theorem mc_256 : (Cond.lays "SignalTheatreModel$Circuit" "SignalTheatreModel$Circuit" "vars" "I" : Cond) ∈ q_big := q_m13 (List.mem_of_getElem? (i := 15) rfl) rfl
set_option maxRecDepth 20000 in
theorem mc_257 : (Cond.lays "SignalTheatreModel$Circuit" "SignalTheatreModel$Circuit" "words" "I" : Cond) ∈ q_big := q_m13 (List.mem_of_getElem? (i := 17) rfl) rfl
set_option maxRecDepth 20000 in
theorem mc_258 : (Cond.lays "SignalTheatreModel$Circuit" "SignalTheatreModel$Circuit" "constants" "[I" : Cond) ∈ q_big := q_m13 (List.mem_of_getElem? (i := 19) rfl) rfl
set_option maxRecDepth 20000 in
theorem mc_259 : (Cond.lays "SignalTheatreModel$Circuit" "SignalTheatreModel$Circuit" "constantMany" "I" : Cond) ∈ q_big := q_m13 (List.mem_of_getElem? (i := 21) rfl) rfl
set_option maxRecDepth 20000 in
theorem mc_260 : (Cond.laysFinal "SignalTheatreModel$Circuit" "SignalTheatreModel$Circuit" "driveLeft" "[I" : Cond) ∈ q_big := q_m13 (List.mem_of_getElem? (i := 23) rfl) rfl
set_option maxRecDepth 20000 in
theorem mc_261 : (Cond.laysFinal "SignalTheatreModel$Circuit" "SignalTheatreModel$Circuit" "driveLeftInst" "[I" : Cond) ∈ q_big := q_m13 (List.mem_of_getElem? (i := 25) rfl) rfl
set_option maxRecDepth 20000 in
theorem mc_262 : (Cond.laysFinal "SignalTheatreModel$Circuit" "SignalTheatreModel$Circuit" "driveRight" "[I" : Cond) ∈ q_big := q_m13 (List.mem_of_getElem? (i := 27) rfl) rfl
set_option maxRecDepth 20000 in
theorem mc_263 : (Cond.laysFinal "SignalTheatreModel$Circuit" "SignalTheatreModel$Circuit" "driveRightInst" "[I" : Cond) ∈ q_big := q_m13 (List.mem_of_getElem? (i := 29) rfl) rfl
set_option maxRecDepth 20000 in
theorem mc_264 : (Cond.laysFinal "SignalTheatreModel$Circuit" "SignalTheatreModel$Circuit" "procNode" "[I" : Cond) ∈ q_big := q_m13 (List.mem_of_getElem? (i := 31) rfl) rfl
set_option maxRecDepth 20000 in
theorem mc_265 : (Cond.laysFinal "SignalTheatreModel$Circuit" "SignalTheatreModel$Circuit" "procInst" "[I" : Cond) ∈ q_big := q_m13 (List.mem_of_getElem? (i := 33) rfl) rfl
set_option maxRecDepth 20000 in
theorem mc_266 : (Cond.laysFinal "SignalTheatreModel$Circuit" "SignalTheatreModel$Circuit" "procAlways" "[Z" : Cond) ∈ q_big := q_m13 (List.mem_of_getElem? (i := 35) rfl) rfl
set_option maxRecDepth 20000 in
theorem mc_267 : (Cond.laysFinal "SignalTheatreModel$Circuit" "SignalTheatreModel$Circuit" "order" "[I" : Cond) ∈ q_big := q_m13 (List.mem_of_getElem? (i := 37) rfl) rfl
set_option maxRecDepth 20000 in
theorem mc_268 : (Cond.lays "SignalTheatreModel$Circuit" "SignalTheatreModel$Circuit" "drives" "I" : Cond) ∈ q_big := q_m13 (List.mem_of_getElem? (i := 39) rfl) rfl
set_option maxRecDepth 20000 in
theorem mc_269 : (Cond.lays "SignalTheatreModel$Circuit" "SignalTheatreModel$Circuit" "processes" "I" : Cond) ∈ q_big := q_m13 (List.mem_of_getElem? (i := 41) rfl) rfl
set_option maxRecDepth 20000 in
theorem mc_270 : (Cond.lays "SignalTheatreModel$Circuit" "SignalTheatreModel$Circuit" "ordered" "I" : Cond) ∈ q_big := q_m13 (List.mem_of_getElem? (i := 43) rfl) rfl
set_option maxRecDepth 20000 in
theorem mc_271 : (Cond.laysFinal "SignalTheatreModel$Circuit" "SignalTheatreModel$Circuit" "wrong" "LSignalTheatreModel$Wrong;" : Cond) ∈ q_big := q_m13 (List.mem_of_getElem? (i := 45) rfl) rfl
set_option maxRecDepth 20000 in
theorem mc_272 : (Cond.lays "SignalTheatreModel$Circuit" "SignalTheatreModel$Circuit" "best" "I" : Cond) ∈ q_big := q_m13 (List.mem_of_getElem? (i := 47) rfl) rfl
set_option maxRecDepth 20000 in
theorem mc_273 : (Cond.lays "SignalTheatreModel$Circuit" "SignalTheatreModel$Circuit" "bestNumber" "I" : Cond) ∈ q_big := q_m13 (List.mem_of_getElem? (i := 49) rfl) rfl
set_option maxRecDepth 20000 in
theorem mc_274 : (Cond.laysFinal "SignalTheatreModel$Circuit" "SignalTheatreModel$Circuit" "wide" "[I" : Cond) ∈ q_big := q_m13 (List.mem_of_getElem? (i := 51) rfl) rfl
set_option maxRecDepth 20000 in
theorem mc_275 : (Cond.laysFinal "SignalTheatreModel$Circuit" "SignalTheatreModel$Circuit" "askedWide" "[I" : Cond) ∈ q_big := q_m13 (List.mem_of_getElem? (i := 53) rfl) rfl
set_option maxRecDepth 20000 in
theorem mc_276 : (Cond.laysFinal "SignalTheatreModel$Circuit" "SignalTheatreModel$Circuit" "nodeVar" "[I" : Cond) ∈ q_big := q_m13 (List.mem_of_getElem? (i := 55) rfl) rfl
set_option maxRecDepth 20000 in
theorem mc_277 : (Cond.laysFinal "SignalTheatreModel$Circuit" "SignalTheatreModel$Circuit" "extra" "[I" : Cond) ∈ q_big := q_m13 (List.mem_of_getElem? (i := 57) rfl) rfl
set_option maxRecDepth 20000 in
theorem mc_278 : (Cond.laysFinal "SignalTheatreModel$Circuit" "SignalTheatreModel$Circuit" "sign" "[Z" : Cond) ∈ q_big := q_m13 (List.mem_of_getElem? (i := 59) rfl) rfl
set_option maxRecDepth 20000 in
theorem mc_279 : (Cond.laysFinal "SignalTheatreModel$Circuit" "SignalTheatreModel$Circuit" "askedSign" "[Z" : Cond) ∈ q_big := q_m13 (List.mem_of_getElem? (i := 61) rfl) rfl
set_option maxRecDepth 20000 in
theorem mc_280 : (Cond.laysFinal "SignalTheatreModel$Circuit" "SignalTheatreModel$Circuit" "ones" "[J" : Cond) ∈ q_big := q_m13 (List.mem_of_getElem? (i := 63) rfl) rfl
set_option maxRecDepth 20000 in
theorem mc_281 : (Cond.laysFinal "SignalTheatreModel$Circuit" "SignalTheatreModel$Circuit" "gone" "[J" : Cond) ∈ q_big := q_m13 (List.mem_of_getElem? (i := 65) rfl) rfl
set_option maxRecDepth 20000 in
theorem mc_282 : (Cond.laysFinal "SignalTheatreModel$Circuit" "SignalTheatreModel$Circuit" "stamp" "[I" : Cond) ∈ q_big := q_m13 (List.mem_of_getElem? (i := 67) rfl) rfl
set_option maxRecDepth 20000 in
theorem mc_283 : (Cond.lays "SignalTheatreModel$Circuit" "SignalTheatreModel$Circuit" "time" "J" : Cond) ∈ q_big := q_m13 (List.mem_of_getElem? (i := 69) rfl) rfl
set_option maxRecDepth 20000 in
theorem mc_284 : (Cond.laysFinal "SignalTheatreModel$Circuit" "SignalTheatreModel$Circuit" "state" "[J" : Cond) ∈ q_big := q_m13 (List.mem_of_getElem? (i := 71) rfl) rfl
set_option maxRecDepth 20000 in
theorem mc_285 : (Cond.laysFinal "SignalTheatreModel$Circuit" "SignalTheatreModel$Circuit" "stateGone" "[J" : Cond) ∈ q_big := q_m13 (List.mem_of_getElem? (i := 73) rfl) rfl
set_option maxRecDepth 20000 in
theorem mc_286 : (Cond.laysFinal "SignalTheatreModel$Circuit" "SignalTheatreModel$Circuit" "word" "[J" : Cond) ∈ q_big := q_m13 (List.mem_of_getElem? (i := 75) rfl) rfl
set_option maxRecDepth 20000 in
theorem mc_287 : (Cond.laysFinal "SignalTheatreModel$Circuit" "SignalTheatreModel$Circuit" "wordGone" "[J" : Cond) ∈ q_big := q_m13 (List.mem_of_getElem? (i := 77) rfl) rfl
set_option maxRecDepth 20000 in
theorem mc_288 : (Cond.laysFinal "SignalTheatreModel$Circuit" "SignalTheatreModel$Circuit" "active" "LSignalTheatreModel$Circuit$Row;" : Cond) ∈ q_big := q_m13 (List.mem_of_getElem? (i := 79) rfl) rfl
set_option maxRecDepth 20000 in
theorem mc_289 : (Cond.laysFinal "SignalTheatreModel$Circuit" "SignalTheatreModel$Circuit" "inactive" "LSignalTheatreModel$Circuit$Row;" : Cond) ∈ q_big := q_m13 (List.mem_of_getElem? (i := 81) rfl) rfl
set_option maxRecDepth 20000 in
theorem mc_290 : (Cond.laysFinal "SignalTheatreModel$Circuit" "SignalTheatreModel$Circuit" "later" "LSignalTheatreModel$Circuit$Row;" : Cond) ∈ q_big := q_m13 (List.mem_of_getElem? (i := 83) rfl) rfl
set_option maxRecDepth 20000 in
theorem mc_291 : (Cond.laysFinal "SignalTheatreModel$Circuit" "SignalTheatreModel$Circuit" "future" "LSignalTheatreModel$Circuit$Row;" : Cond) ∈ q_big := q_m13 (List.mem_of_getElem? (i := 85) rfl) rfl
set_option maxRecDepth 20000 in
theorem mc_292 : (Cond.laysFinal "SignalTheatreModel$Circuit" "SignalTheatreModel$Circuit" "procState" "[I" : Cond) ∈ q_big := q_m13 (List.mem_of_getElem? (i := 87) rfl) rfl
set_option maxRecDepth 20000 in
theorem mc_293 : (Cond.laysFinal "SignalTheatreModel$Circuit" "SignalTheatreModel$Circuit" "waitTurn" "[I" : Cond) ∈ q_big := q_m13 (List.mem_of_getElem? (i := 89) rfl) rfl
set_option maxRecDepth 20000 in
theorem mc_294 : (Cond.laysFinal "SignalTheatreModel$Circuit" "SignalTheatreModel$Circuit" "pile" "[I" : Cond) ∈ q_big := q_m13 (List.mem_of_getElem? (i := 91) rfl) rfl
set_option maxRecDepth 20000 in
theorem mc_295 : (Cond.laysFinal "SignalTheatreModel$Circuit" "SignalTheatreModel$Circuit" "node" "[I" : Cond) ∈ q_big := q_m13 (List.mem_of_getElem? (i := 93) rfl) rfl
set_option maxRecDepth 20000 in
theorem mc_296 : (Cond.laysFinal "SignalTheatreModel$Circuit" "SignalTheatreModel$Circuit" "phase" "[I" : Cond) ∈ q_big := q_m13 (List.mem_of_getElem? (i := 95) rfl) rfl
set_option maxRecDepth 20000 in
theorem mc_297 : (Cond.laysFinal "SignalTheatreModel$Circuit" "SignalTheatreModel$Circuit" "left" "[J" : Cond) ∈ q_big := q_m13 (List.mem_of_getElem? (i := 97) rfl) rfl
set_option maxRecDepth 20000 in
theorem mc_298 : (Cond.laysFinal "SignalTheatreModel$Circuit" "SignalTheatreModel$Circuit" "keptOnes" "[J" : Cond) ∈ q_big := q_m13 (List.mem_of_getElem? (i := 99) rfl) rfl
set_option maxRecDepth 20000 in
theorem mc_299 : (Cond.laysFinal "SignalTheatreModel$Circuit" "SignalTheatreModel$Circuit" "keptGone" "[J" : Cond) ∈ q_big := q_m13 (List.mem_of_getElem? (i := 101) rfl) rfl
set_option maxRecDepth 20000 in
theorem mc_300 : (Cond.lays "SignalTheatreModel$Circuit" "SignalTheatreModel$Circuit" "turns" "I" : Cond) ∈ q_big := q_m13 (List.mem_of_getElem? (i := 103) rfl) rfl
set_option maxRecDepth 20000 in
theorem mc_301 : (Cond.lays "SignalTheatreModel$Circuit" "SignalTheatreModel$Circuit" "current" "I" : Cond) ∈ q_big := q_m13 (List.mem_of_getElem? (i := 105) rfl) rfl
set_option maxRecDepth 20000 in
theorem mc_302 : (Cond.lays "SignalTheatreModel$Circuit" "SignalTheatreModel$Circuit" "budget" "I" : Cond) ∈ q_big := q_m13 (List.mem_of_getElem? (i := 107) rfl) rfl
set_option maxRecDepth 20000 in
theorem mc_303 : (Cond.lays "SignalTheatreModel$Circuit" "SignalTheatreModel$Circuit" "cost" "I" : Cond) ∈ q_big := q_m13 (List.mem_of_getElem? (i := 109) rfl) rfl
set_option maxRecDepth 20000 in
theorem mc_304 : (Cond.lays "SignalTheatreModel$Circuit" "SignalTheatreModel$Circuit" "ending" "I" : Cond) ∈ q_big := q_m13 (List.mem_of_getElem? (i := 111) rfl) rfl
set_option maxRecDepth 20000 in
theorem mc_305 : (Cond.laysFinal "SignalTheatreModel$Circuit" "SignalTheatreModel$Circuit" "log" "[B" : Cond) ∈ q_big := q_m13 (List.mem_of_getElem? (i := 113) rfl) rfl
set_option maxRecDepth 20000 in
theorem mc_306 : (Cond.lays "SignalTheatreModel$Circuit" "SignalTheatreModel$Circuit" "logged" "I" : Cond) ∈ q_big := q_m13 (List.mem_of_getElem? (i := 115) rfl) rfl
set_option maxRecDepth 20000 in
theorem mc_307 : (Cond.lays "SignalTheatreModel$Circuit" "SignalTheatreModel$Circuit" "targetVar" "I" : Cond) ∈ q_big := q_m13 (List.mem_of_getElem? (i := 117) rfl) rfl
set_option maxRecDepth 20000 in
theorem mc_308 : (Cond.lays "SignalTheatreModel$Circuit" "SignalTheatreModel$Circuit" "targetWord" "I" : Cond) ∈ q_big := q_m13 (List.mem_of_getElem? (i := 119) rfl) rfl
set_option maxRecDepth 20000 in
theorem mc_309 : (Cond.lays "SignalTheatreModel$Circuit" "SignalTheatreModel$Circuit" "targetLow" "I" : Cond) ∈ q_big := q_m13 (List.mem_of_getElem? (i := 121) rfl) rfl
set_option maxRecDepth 20000 in
theorem mc_310 : (Cond.lays "SignalTheatreModel$Circuit" "SignalTheatreModel$Circuit" "targetMask" "J" : Cond) ∈ q_big := q_m13 (List.mem_of_getElem? (i := 123) rfl) rfl
set_option maxRecDepth 20000 in
theorem mc_311 : (Cond.laysFinal "SignalTheatreModel$Circuit" "SignalTheatreModel$Circuit" "partVar" "[I" : Cond) ∈ q_big := q_m13 (List.mem_of_getElem? (i := 125) rfl) rfl
set_option maxRecDepth 20000 in
theorem mc_312 : (Cond.laysFinal "SignalTheatreModel$Circuit" "SignalTheatreModel$Circuit" "partWord" "[I" : Cond) ∈ q_big := q_m13 (List.mem_of_getElem? (i := 127) rfl) rfl
set_option maxRecDepth 20000 in
theorem mc_313 : (Cond.laysFinal "SignalTheatreModel$Circuit" "SignalTheatreModel$Circuit" "partLow" "[I" : Cond) ∈ q_big := q_m13 (List.mem_of_getElem? (i := 129) rfl) rfl
set_option maxRecDepth 20000 in
theorem mc_314 : (Cond.laysFinal "SignalTheatreModel$Circuit" "SignalTheatreModel$Circuit" "partShift" "[I" : Cond) ∈ q_big := q_m13 (List.mem_of_getElem? (i := 131) rfl) rfl
set_option maxRecDepth 20000 in
theorem mc_315 : (Cond.laysFinal "SignalTheatreModel$Circuit" "SignalTheatreModel$Circuit" "partMask" "[J" : Cond) ∈ q_big := q_m13 (List.mem_of_getElem? (i := 133) rfl) rfl
set_option maxRecDepth 20000 in
theorem mc_316 : (Cond.lays "SignalTheatreModel$Circuit" "SignalTheatreModel$Circuit" "parts" "I" : Cond) ∈ q_big := q_m13 (List.mem_of_getElem? (i := 135) rfl) rfl
set_option maxRecDepth 20000 in
theorem mc_317 : (Cond.lays "SignalTheatreModel$Circuit" "SignalTheatreModel$Circuit" "valueOnes" "J" : Cond) ∈ q_big := q_m13 (List.mem_of_getElem? (i := 137) rfl) rfl
set_option maxRecDepth 20000 in
theorem mc_318 : (Cond.lays "SignalTheatreModel$Circuit" "SignalTheatreModel$Circuit" "valueGone" "J" : Cond) ∈ q_big := q_m13 (List.mem_of_getElem? (i := 139) rfl) rfl
set_option maxRecDepth 20000 in
theorem mc_319 : (Cond.laysFinal "SignalTheatreModel$Circuit" "SignalTheatreModel$Circuit" "partOf" "[I" : Cond) ∈ q_big := q_m13 (List.mem_of_getElem? (i := 141) rfl) rfl
set_option maxRecDepth 20000 in
theorem mc_320 : (Cond.laysFinal "SignalTheatreModel$Circuit" "SignalTheatreModel$Circuit" "driveVar" "[I" : Cond) ∈ q_big := q_m13 (List.mem_of_getElem? (i := 143) rfl) rfl
set_option maxRecDepth 20000 in
theorem mc_321 : (Cond.laysFinal "SignalTheatreModel$Circuit" "SignalTheatreModel$Circuit" "driveLow" "[I" : Cond) ∈ q_big := q_m13 (List.mem_of_getElem? (i := 145) rfl) rfl
set_option maxRecDepth 20000 in
theorem mc_322 : (Cond.laysFinal "SignalTheatreModel$Circuit" "SignalTheatreModel$Circuit" "driveShift" "[I" : Cond) ∈ q_big := q_m13 (List.mem_of_getElem? (i := 147) rfl) rfl
set_option maxRecDepth 20000 in
theorem mc_323 : (Cond.laysFinal "SignalTheatreModel$Circuit" "SignalTheatreModel$Circuit" "driveMask" "[J" : Cond) ∈ q_big := q_m13 (List.mem_of_getElem? (i := 149) rfl) rfl
set_option maxRecDepth 20000 in
theorem mc_324 : (Cond.laysFinal "SignalTheatreModel$Circuit" "SignalTheatreModel$Circuit" "driveOnes" "[J" : Cond) ∈ q_big := q_m13 (List.mem_of_getElem? (i := 151) rfl) rfl
set_option maxRecDepth 20000 in
theorem mc_325 : (Cond.laysFinal "SignalTheatreModel$Circuit" "SignalTheatreModel$Circuit" "driveGone" "[J" : Cond) ∈ q_big := q_m13 (List.mem_of_getElem? (i := 153) rfl) rfl
set_option maxRecDepth 20000 in
theorem mc_326 : (Cond.lays "SignalTheatreModel$Circuit" "SignalTheatreModel$Circuit" "driveParts" "I" : Cond) ∈ q_big := q_m13 (List.mem_of_getElem? (i := 155) rfl) rfl
set_option maxRecDepth 20000 in
theorem mc_327 : (Cond.laysFinal "SignalTheatreModel$Circuit" "SignalTheatreModel$Circuit" "digits" "[B" : Cond) ∈ q_big := q_m13 (List.mem_of_getElem? (i := 157) rfl) rfl
set_option maxRecDepth 20000 in
theorem mc_328 : (Cond.lays "SignalTheatreModel$Circuit" "SignalTheatreModel$Circuit" "digitMany" "I" : Cond) ∈ q_big := q_m13 (List.mem_of_getElem? (i := 159) rfl) rfl
set_option maxRecDepth 20000 in
theorem mc_329 : (Cond.laysFinal "SignalTheatreModel$Circuit" "SignalTheatreModel$Circuit" "bad" "[Z" : Cond) ∈ q_big := q_m13 (List.mem_of_getElem? (i := 161) rfl) rfl
set_option maxRecDepth 20000 in
theorem mc_330 : (Cond.lays "SignalTheatreModel$Circuit" "SignalTheatreModel$Circuit" "rangeLow" "I" : Cond) ∈ q_big := q_m13 (List.mem_of_getElem? (i := 163) rfl) rfl
set_option maxRecDepth 20000 in
theorem mc_331 : (Cond.lays "SignalTheatreModel$Circuit" "SignalTheatreModel$Circuit" "rangeBad" "Z" : Cond) ∈ q_big := q_m13 (List.mem_of_getElem? (i := 165) rfl) rfl
set_option maxRecDepth 20000 in
theorem mc_332 : (Cond.laysFinal "SignalTheatreModel$Circuit$Row" "SignalTheatreModel$Circuit$Row" "sort" "[I" : Cond) ∈ q_big := q_m12 (List.mem_of_getElem? (i := 71) rfl) rfl
set_option maxRecDepth 20000 in
theorem mc_333 : (Cond.laysFinal "SignalTheatreModel$Circuit$Row" "SignalTheatreModel$Circuit$Row" "index" "[I" : Cond) ∈ q_big := q_m12 (List.mem_of_getElem? (i := 73) rfl) rfl
set_option maxRecDepth 20000 in
theorem mc_334 : (Cond.laysFinal "SignalTheatreModel$Circuit$Row" "SignalTheatreModel$Circuit$Row" "word" "[I" : Cond) ∈ q_big := q_m12 (List.mem_of_getElem? (i := 75) rfl) rfl
set_option maxRecDepth 20000 in
theorem mc_335 : (Cond.laysFinal "SignalTheatreModel$Circuit$Row" "SignalTheatreModel$Circuit$Row" "ones" "[J" : Cond) ∈ q_big := q_m12 (List.mem_of_getElem? (i := 77) rfl) rfl
set_option maxRecDepth 20000 in
theorem mc_336 : (Cond.laysFinal "SignalTheatreModel$Circuit$Row" "SignalTheatreModel$Circuit$Row" "gone" "[J" : Cond) ∈ q_big := q_m12 (List.mem_of_getElem? (i := 79) rfl) rfl
set_option maxRecDepth 20000 in
theorem mc_337 : (Cond.laysFinal "SignalTheatreModel$Circuit$Row" "SignalTheatreModel$Circuit$Row" "mask" "[J" : Cond) ∈ q_big := q_m12 (List.mem_of_getElem? (i := 81) rfl) rfl
set_option maxRecDepth 20000 in
theorem mc_338 : (Cond.laysFinal "SignalTheatreModel$Circuit$Row" "SignalTheatreModel$Circuit$Row" "time" "[J" : Cond) ∈ q_big := q_m12 (List.mem_of_getElem? (i := 83) rfl) rfl
set_option maxRecDepth 20000 in
theorem mc_339 : (Cond.laysFinal "SignalTheatreModel$Circuit$Row" "SignalTheatreModel$Circuit$Row" "later" "[Z" : Cond) ∈ q_big := q_m12 (List.mem_of_getElem? (i := 85) rfl) rfl
set_option maxRecDepth 20000 in
theorem mc_340 : (Cond.lays "SignalTheatreModel$Circuit$Row" "SignalTheatreModel$Circuit$Row" "many" "I" : Cond) ∈ q_big := q_m12 (List.mem_of_getElem? (i := 87) rfl) rfl
def F_S : u_T := fun k => match k with
  | 0 => ("SignalTheatre", "input", "[B", true)
  | 1 => ("SignalTheatre", "length", "I", false)
  | 2 => ("SignalTheatre", "built", "Z", false)
  | 3 => ("SignalTheatre", "circuit", "LSignalTheatre$Circuit;", false)
  | 4 => ("SignalTheatre", "spare", "LSignalTheatre$Circuit;", false)
  | 5 => ("SignalTheatre", "faults", "LSignalTheatre$Faults;", true)
  | 6 => ("SignalTheatre", "builder", "LSignalTheatre$Builder;", true)
  | _ => ("SignalTheatre", "stage", "LSignalTheatre$Stage;", true)
def t_S : Nat → FieldType := fun k => match k with
  | 0 => .array .byte
  | 1 => .int
  | 2 => .boolean
  | 3 => .object "SignalTheatre$Circuit"
  | 4 => .object "SignalTheatre$Circuit"
  | 5 => .object "SignalTheatre$Faults"
  | 6 => .object "SignalTheatre$Builder"
  | _ => .object "SignalTheatre$Stage"
theorem n_S : ∀ a, a < 8 → ∀ b, b < 8 → a ≠ b → (F_S a).2.1 ≠ (F_S b).2.1 := by decide +kernel
theorem t_S_ok : ∀ k, k < 8 → parseFieldDescriptor (F_S k).2.2.1 = some (t_S k) := by decide +kernel
abbrev z_S : List Value := [.null, .int 0, .int 0, .null, .null, .null, .null, .null]
theorem z_S_ok : ∀ j, j < 8 → defaultValue (t_S j) = vp_V z_S j := by decide +kernel
set_option maxRecDepth 20000 in
theorem i_S : ∀ w ∈ u_ws "SignalTheatre" F_S 8, w ∈ q_big := by
  intro w hw
  obtain ⟨k, hk, rfl⟩ := List.mem_map.mp hw
  have hk := List.mem_range.mp hk
  match k, hk with
  | 0, _ => exact mc_0
  | 1, _ => exact mc_1
  | 2, _ => exact mc_2
  | 3, _ => exact mc_3
  | 4, _ => exact mc_4
  | 5, _ => exact mc_5
  | 6, _ => exact mc_6
  | 7, _ => exact mc_7
  | k + 8, h => omega
def F_Tok : u_T := fun k => match k with
  | 0 => ("SignalTheatre$Tokens", "text", "[B", false)
  | 1 => ("SignalTheatre$Tokens", "length", "I", false)
  | 2 => ("SignalTheatre$Tokens", "kind", "[I", true)
  | 3 => ("SignalTheatre$Tokens", "place", "[I", true)
  | 4 => ("SignalTheatre$Tokens", "info", "[I", true)
  | 5 => ("SignalTheatre$Tokens", "size", "I", false)
  | 6 => ("SignalTheatre$Tokens", "nameHead", "[I", true)
  | 7 => ("SignalTheatre$Tokens", "nameNext", "[I", true)
  | 8 => ("SignalTheatre$Tokens", "namePlace", "[I", true)
  | 9 => ("SignalTheatre$Tokens", "nameLength", "[I", true)
  | 10 => ("SignalTheatre$Tokens", "nameWord", "[I", true)
  | 11 => ("SignalTheatre$Tokens", "names", "I", false)
  | 12 => ("SignalTheatre$Tokens", "numberOnes", "[J", true)
  | 13 => ("SignalTheatre$Tokens", "numberUnknown", "[J", true)
  | 14 => ("SignalTheatre$Tokens", "numberShape", "[I", true)
  | 15 => ("SignalTheatre$Tokens", "numbers", "I", false)
  | 16 => ("SignalTheatre$Tokens", "ones", "J", false)
  | 17 => ("SignalTheatre$Tokens", "unknown", "J", false)
  | 18 => ("SignalTheatre$Tokens", "width", "I", false)
  | _ => ("SignalTheatre$Tokens", "signed", "Z", false)
def t_Tok : Nat → FieldType := fun k => match k with
  | 0 => .array .byte
  | 1 => .int
  | 2 => .array .int
  | 3 => .array .int
  | 4 => .array .int
  | 5 => .int
  | 6 => .array .int
  | 7 => .array .int
  | 8 => .array .int
  | 9 => .array .int
  | 10 => .array .int
  | 11 => .int
  | 12 => .array .long
  | 13 => .array .long
  | 14 => .array .int
  | 15 => .int
  | 16 => .long
  | 17 => .long
  | 18 => .int
  | _ => .boolean
theorem n_Tok : ∀ a, a < 20 → ∀ b, b < 20 → a ≠ b → (F_Tok a).2.1 ≠ (F_Tok b).2.1 := by decide +kernel
theorem t_Tok_ok : ∀ k, k < 20 → parseFieldDescriptor (F_Tok k).2.2.1 = some (t_Tok k) := by decide +kernel
abbrev z_Tok : List Value := [.null, .int 0, .null, .null, .null, .int 0, .null, .null, .null, .null, .null, .int 0, .null, .null, .null, .int 0, .long 0, .long 0, .int 0, .int 0]
theorem z_Tok_ok : ∀ j, j < 20 → defaultValue (t_Tok j) = vp_V z_Tok j := by decide +kernel
set_option maxRecDepth 20000 in
theorem i_Tok : ∀ w ∈ u_ws "SignalTheatre$Tokens" F_Tok 20, w ∈ q_big := by
  intro w hw
  obtain ⟨k, hk, rfl⟩ := List.mem_map.mp hw
  have hk := List.mem_range.mp hk
  match k, hk with
  | 0, _ => exact mc_8
  | 1, _ => exact mc_9
  | 2, _ => exact mc_10
  | 3, _ => exact mc_11
  | 4, _ => exact mc_12
  | 5, _ => exact mc_13
  | 6, _ => exact mc_14
  | 7, _ => exact mc_15
  | 8, _ => exact mc_16
  | 9, _ => exact mc_17
  | 10, _ => exact mc_18
  | 11, _ => exact mc_19
  | 12, _ => exact mc_20
  | 13, _ => exact mc_21
  | 14, _ => exact mc_22
  | 15, _ => exact mc_23
  | 16, _ => exact mc_24
  | 17, _ => exact mc_25
  | 18, _ => exact mc_26
  | 19, _ => exact mc_27
  | k + 20, h => omega
def F_Flt : u_T := fun k => match k with
  | 0 => ("SignalTheatre$Faults", "tokens", "LSignalTheatre$Tokens;", true)
  | 1 => ("SignalTheatre$Faults", "number", "I", false)
  | 2 => ("SignalTheatre$Faults", "place", "I", false)
  | 3 => ("SignalTheatre$Faults", "foundNumber", "I", false)
  | 4 => ("SignalTheatre$Faults", "foundPlace", "I", false)
  | 5 => ("SignalTheatre$Faults", "hard", "Z", false)
  | _ => ("SignalTheatre$Faults", "on", "Z", false)
def t_Flt : Nat → FieldType := fun k => match k with
  | 0 => .object "SignalTheatre$Tokens"
  | 1 => .int
  | 2 => .int
  | 3 => .int
  | 4 => .int
  | 5 => .boolean
  | _ => .boolean
theorem n_Flt : ∀ a, a < 7 → ∀ b, b < 7 → a ≠ b → (F_Flt a).2.1 ≠ (F_Flt b).2.1 := by decide +kernel
theorem t_Flt_ok : ∀ k, k < 7 → parseFieldDescriptor (F_Flt k).2.2.1 = some (t_Flt k) := by decide +kernel
abbrev z_Flt : List Value := [.null, .int 0, .int 0, .int 0, .int 0, .int 0, .int 0]
theorem z_Flt_ok : ∀ j, j < 7 → defaultValue (t_Flt j) = vp_V z_Flt j := by decide +kernel
set_option maxRecDepth 20000 in
theorem i_Flt : ∀ w ∈ u_ws "SignalTheatre$Faults" F_Flt 7, w ∈ q_big := by
  intro w hw
  obtain ⟨k, hk, rfl⟩ := List.mem_map.mp hw
  have hk := List.mem_range.mp hk
  match k, hk with
  | 0, _ => exact mc_28
  | 1, _ => exact mc_29
  | 2, _ => exact mc_30
  | 3, _ => exact mc_31
  | 4, _ => exact mc_32
  | 5, _ => exact mc_33
  | 6, _ => exact mc_34
  | k + 7, h => omega
def F_Mak : u_T := fun k => match k with
  | 0 => ("SignalTheatre$Maker", "tokens", "LSignalTheatre$Tokens;", true)
  | 1 => ("SignalTheatre$Maker", "faults", "LSignalTheatre$Faults;", true)
  | 2 => ("SignalTheatre$Maker", "worth", "LSignalTheatre$Worth;", true)
  | 3 => ("SignalTheatre$Maker", "circuit", "LSignalTheatre$Circuit;", false)
  | 4 => ("SignalTheatre$Maker", "code", "LSignalTheatre$Code;", false)
  | 5 => ("SignalTheatre$Maker", "scope", "I", false)
  | 6 => ("SignalTheatre$Maker", "on", "Z", false)
  | 7 => ("SignalTheatre$Maker", "sound", "Z", false)
  | 8 => ("SignalTheatre$Maker", "flaw", "I", false)
  | 9 => ("SignalTheatre$Maker", "leftFrom", "I", false)
  | 10 => ("SignalTheatre$Maker", "leftWidth", "I", false)
  | 11 => ("SignalTheatre$Maker", "head", "[I", true)
  | 12 => ("SignalTheatre$Maker", "symbolName", "[I", true)
  | 13 => ("SignalTheatre$Maker", "symbolScope", "[I", true)
  | 14 => ("SignalTheatre$Maker", "symbolSort", "[I", true)
  | 15 => ("SignalTheatre$Maker", "symbolWorth", "[I", true)
  | 16 => ("SignalTheatre$Maker", "symbolBelow", "[I", true)
  | _ => ("SignalTheatre$Maker", "symbols", "I", false)
def t_Mak : Nat → FieldType := fun k => match k with
  | 0 => .object "SignalTheatre$Tokens"
  | 1 => .object "SignalTheatre$Faults"
  | 2 => .object "SignalTheatre$Worth"
  | 3 => .object "SignalTheatre$Circuit"
  | 4 => .object "SignalTheatre$Code"
  | 5 => .int
  | 6 => .boolean
  | 7 => .boolean
  | 8 => .int
  | 9 => .int
  | 10 => .int
  | 11 => .array .int
  | 12 => .array .int
  | 13 => .array .int
  | 14 => .array .int
  | 15 => .array .int
  | 16 => .array .int
  | _ => .int
theorem n_Mak : ∀ a, a < 18 → ∀ b, b < 18 → a ≠ b → (F_Mak a).2.1 ≠ (F_Mak b).2.1 := by decide +kernel
theorem t_Mak_ok : ∀ k, k < 18 → parseFieldDescriptor (F_Mak k).2.2.1 = some (t_Mak k) := by decide +kernel
abbrev z_Mak : List Value := [.null, .null, .null, .null, .null, .int 0, .int 0, .int 0, .int 0, .int 0, .int 0, .null, .null, .null, .null, .null, .null, .int 0]
theorem z_Mak_ok : ∀ j, j < 18 → defaultValue (t_Mak j) = vp_V z_Mak j := by decide +kernel
set_option maxRecDepth 20000 in
theorem i_Mak : ∀ w ∈ u_ws "SignalTheatre$Maker" F_Mak 18, w ∈ q_big := by
  intro w hw
  obtain ⟨k, hk, rfl⟩ := List.mem_map.mp hw
  have hk := List.mem_range.mp hk
  match k, hk with
  | 0, _ => exact mc_35
  | 1, _ => exact mc_36
  | 2, _ => exact mc_37
  | 3, _ => exact mc_38
  | 4, _ => exact mc_39
  | 5, _ => exact mc_40
  | 6, _ => exact mc_41
  | 7, _ => exact mc_42
  | 8, _ => exact mc_43
  | 9, _ => exact mc_44
  | 10, _ => exact mc_45
  | 11, _ => exact mc_46
  | 12, _ => exact mc_47
  | 13, _ => exact mc_48
  | 14, _ => exact mc_49
  | 15, _ => exact mc_50
  | 16, _ => exact mc_51
  | 17, _ => exact mc_52
  | k + 18, h => omega
def F_Wor : u_T := fun k => match k with
  | 0 => ("SignalTheatre$Worth", "ones", "[J", true)
  | 1 => ("SignalTheatre$Worth", "unknown", "[J", true)
  | 2 => ("SignalTheatre$Worth", "top", "I", false)
  | 3 => ("SignalTheatre$Worth", "circuit", "LSignalTheatre$Circuit;", false)
  | 4 => ("SignalTheatre$Worth", "code", "LSignalTheatre$Code;", false)
  | 5 => ("SignalTheatre$Worth", "now", "J", false)
  | 6 => ("SignalTheatre$Worth", "o", "J", false)
  | _ => ("SignalTheatre$Worth", "u", "J", false)
def t_Wor : Nat → FieldType := fun k => match k with
  | 0 => .array .long
  | 1 => .array .long
  | 2 => .int
  | 3 => .object "SignalTheatre$Circuit"
  | 4 => .object "SignalTheatre$Code"
  | 5 => .long
  | 6 => .long
  | _ => .long
theorem n_Wor : ∀ a, a < 8 → ∀ b, b < 8 → a ≠ b → (F_Wor a).2.1 ≠ (F_Wor b).2.1 := by decide +kernel
theorem t_Wor_ok : ∀ k, k < 8 → parseFieldDescriptor (F_Wor k).2.2.1 = some (t_Wor k) := by decide +kernel
abbrev z_Wor : List Value := [.null, .null, .int 0, .null, .null, .long 0, .long 0, .long 0]
theorem z_Wor_ok : ∀ j, j < 8 → defaultValue (t_Wor j) = vp_V z_Wor j := by decide +kernel
set_option maxRecDepth 20000 in
theorem i_Wor : ∀ w ∈ u_ws "SignalTheatre$Worth" F_Wor 8, w ∈ q_big := by
  intro w hw
  obtain ⟨k, hk, rfl⟩ := List.mem_map.mp hw
  have hk := List.mem_range.mp hk
  match k, hk with
  | 0, _ => exact mc_53
  | 1, _ => exact mc_54
  | 2, _ => exact mc_55
  | 3, _ => exact mc_56
  | 4, _ => exact mc_57
  | 5, _ => exact mc_58
  | 6, _ => exact mc_59
  | 7, _ => exact mc_60
  | k + 8, h => omega
def F_Rea : u_T := fun k => match k with
  | 0 => ("SignalTheatre$Reader", "tokens", "LSignalTheatre$Tokens;", true)
  | 1 => ("SignalTheatre$Reader", "faults", "LSignalTheatre$Faults;", true)
  | 2 => ("SignalTheatre$Reader", "maker", "LSignalTheatre$Maker;", true)
  | 3 => ("SignalTheatre$Reader", "waiting", "[I", true)
  | 4 => ("SignalTheatre$Reader", "waitingCount", "I", false)
  | 5 => ("SignalTheatre$Reader", "at", "I", false)
  | 6 => ("SignalTheatre$Reader", "depth", "I", false)
  | 7 => ("SignalTheatre$Reader", "high", "J", false)
  | _ => ("SignalTheatre$Reader", "low", "J", false)
def t_Rea : Nat → FieldType := fun k => match k with
  | 0 => .object "SignalTheatre$Tokens"
  | 1 => .object "SignalTheatre$Faults"
  | 2 => .object "SignalTheatre$Maker"
  | 3 => .array .int
  | 4 => .int
  | 5 => .int
  | 6 => .int
  | 7 => .long
  | _ => .long
theorem n_Rea : ∀ a, a < 9 → ∀ b, b < 9 → a ≠ b → (F_Rea a).2.1 ≠ (F_Rea b).2.1 := by decide +kernel
theorem t_Rea_ok : ∀ k, k < 9 → parseFieldDescriptor (F_Rea k).2.2.1 = some (t_Rea k) := by decide +kernel
abbrev z_Rea : List Value := [.null, .null, .null, .null, .int 0, .int 0, .int 0, .long 0, .long 0]
theorem z_Rea_ok : ∀ j, j < 9 → defaultValue (t_Rea j) = vp_V z_Rea j := by decide +kernel
set_option maxRecDepth 20000 in
theorem i_Rea : ∀ w ∈ u_ws "SignalTheatre$Reader" F_Rea 9, w ∈ q_big := by
  intro w hw
  obtain ⟨k, hk, rfl⟩ := List.mem_map.mp hw
  have hk := List.mem_range.mp hk
  match k, hk with
  | 0, _ => exact mc_61
  | 1, _ => exact mc_62
  | 2, _ => exact mc_63
  | 3, _ => exact mc_64
  | 4, _ => exact mc_65
  | 5, _ => exact mc_66
  | 6, _ => exact mc_67
  | 7, _ => exact mc_68
  | 8, _ => exact mc_69
  | k + 9, h => omega
def F_Cir : u_T := fun k => match k with
  | 0 => ("SignalTheatre$Circuit", "text", "[B", true)
  | 1 => ("SignalTheatre$Circuit", "code", "LSignalTheatre$Code;", true)
  | 2 => ("SignalTheatre$Circuit", "signals", "[LSignalTheatre$Signal;", true)
  | 3 => ("SignalTheatre$Circuit", "signalCount", "I", false)
  | 4 => ("SignalTheatre$Circuit", "ones", "[J", true)
  | 5 => ("SignalTheatre$Circuit", "unknown", "[J", true)
  | 6 => ("SignalTheatre$Circuit", "cells", "I", false)
  | 7 => ("SignalTheatre$Circuit", "words", "I", false)
  | 8 => ("SignalTheatre$Circuit", "scopeAbove", "[I", true)
  | 9 => ("SignalTheatre$Circuit", "scopePlace", "[I", true)
  | 10 => ("SignalTheatre$Circuit", "scopeBytes", "[I", true)
  | 11 => ("SignalTheatre$Circuit", "scopes", "I", false)
  | 12 => ("SignalTheatre$Circuit", "assignRoot", "[I", true)
  | 13 => ("SignalTheatre$Circuit", "assignFrom", "[I", true)
  | 14 => ("SignalTheatre$Circuit", "assignTo", "[I", true)
  | 15 => ("SignalTheatre$Circuit", "assigns", "I", false)
  | 16 => ("SignalTheatre$Circuit", "processStart", "[I", true)
  | 17 => ("SignalTheatre$Circuit", "processes", "I", false)
  | 18 => ("SignalTheatre$Circuit", "order", "[I", true)
  | _ => ("SignalTheatre$Circuit", "readers", "[J", true)
def t_Cir : Nat → FieldType := fun k => match k with
  | 0 => .array .byte
  | 1 => .object "SignalTheatre$Code"
  | 2 => .array (.object "SignalTheatre$Signal")
  | 3 => .int
  | 4 => .array .long
  | 5 => .array .long
  | 6 => .int
  | 7 => .int
  | 8 => .array .int
  | 9 => .array .int
  | 10 => .array .int
  | 11 => .int
  | 12 => .array .int
  | 13 => .array .int
  | 14 => .array .int
  | 15 => .int
  | 16 => .array .int
  | 17 => .int
  | 18 => .array .int
  | _ => .array .long
theorem n_Cir : ∀ a, a < 20 → ∀ b, b < 20 → a ≠ b → (F_Cir a).2.1 ≠ (F_Cir b).2.1 := by decide +kernel
theorem t_Cir_ok : ∀ k, k < 20 → parseFieldDescriptor (F_Cir k).2.2.1 = some (t_Cir k) := by decide +kernel
abbrev z_Cir : List Value := [.null, .null, .null, .int 0, .null, .null, .int 0, .int 0, .null, .null, .null, .int 0, .null, .null, .null, .int 0, .null, .int 0, .null, .null]
theorem z_Cir_ok : ∀ j, j < 20 → defaultValue (t_Cir j) = vp_V z_Cir j := by decide +kernel
set_option maxRecDepth 20000 in
theorem i_Cir : ∀ w ∈ u_ws "SignalTheatre$Circuit" F_Cir 20, w ∈ q_big := by
  intro w hw
  obtain ⟨k, hk, rfl⟩ := List.mem_map.mp hw
  have hk := List.mem_range.mp hk
  match k, hk with
  | 0, _ => exact mc_70
  | 1, _ => exact mc_71
  | 2, _ => exact mc_72
  | 3, _ => exact mc_73
  | 4, _ => exact mc_74
  | 5, _ => exact mc_75
  | 6, _ => exact mc_76
  | 7, _ => exact mc_77
  | 8, _ => exact mc_78
  | 9, _ => exact mc_79
  | 10, _ => exact mc_80
  | 11, _ => exact mc_81
  | 12, _ => exact mc_82
  | 13, _ => exact mc_83
  | 14, _ => exact mc_84
  | 15, _ => exact mc_85
  | 16, _ => exact mc_86
  | 17, _ => exact mc_87
  | 18, _ => exact mc_88
  | 19, _ => exact mc_89
  | k + 20, h => omega
def F_Cod : u_T := fun k => match k with
  | 0 => ("SignalTheatre$Code", "op", "[I", true)
  | 1 => ("SignalTheatre$Code", "arg", "[I", true)
  | 2 => ("SignalTheatre$Code", "first", "[I", true)
  | 3 => ("SignalTheatre$Code", "own", "[I", true)
  | 4 => ("SignalTheatre$Code", "given", "[I", true)
  | 5 => ("SignalTheatre$Code", "nodes", "I", false)
  | 6 => ("SignalTheatre$Code", "ones", "[J", true)
  | 7 => ("SignalTheatre$Code", "unknown", "[J", true)
  | 8 => ("SignalTheatre$Code", "constants", "I", false)
  | 9 => ("SignalTheatre$Code", "leftSignal", "[I", true)
  | 10 => ("SignalTheatre$Code", "leftWay", "[I", true)
  | 11 => ("SignalTheatre$Code", "leftIndex", "[I", true)
  | 12 => ("SignalTheatre$Code", "leftWidth", "[I", true)
  | 13 => ("SignalTheatre$Code", "driverNext", "[I", true)
  | 14 => ("SignalTheatre$Code", "driverOnes", "[J", true)
  | 15 => ("SignalTheatre$Code", "driverUnknown", "[J", true)
  | 16 => ("SignalTheatre$Code", "lefts", "I", false)
  | 17 => ("SignalTheatre$Code", "line", "[I", true)
  | 18 => ("SignalTheatre$Code", "lines", "I", false)
  | _ => ("SignalTheatre$Code", "counters", "I", false)
def t_Cod : Nat → FieldType := fun k => match k with
  | 0 => .array .int
  | 1 => .array .int
  | 2 => .array .int
  | 3 => .array .int
  | 4 => .array .int
  | 5 => .int
  | 6 => .array .long
  | 7 => .array .long
  | 8 => .int
  | 9 => .array .int
  | 10 => .array .int
  | 11 => .array .int
  | 12 => .array .int
  | 13 => .array .int
  | 14 => .array .long
  | 15 => .array .long
  | 16 => .int
  | 17 => .array .int
  | 18 => .int
  | _ => .int
theorem n_Cod : ∀ a, a < 20 → ∀ b, b < 20 → a ≠ b → (F_Cod a).2.1 ≠ (F_Cod b).2.1 := by decide +kernel
theorem t_Cod_ok : ∀ k, k < 20 → parseFieldDescriptor (F_Cod k).2.2.1 = some (t_Cod k) := by decide +kernel
abbrev z_Cod : List Value := [.null, .null, .null, .null, .null, .int 0, .null, .null, .int 0, .null, .null, .null, .null, .null, .null, .null, .int 0, .null, .int 0, .int 0]
theorem z_Cod_ok : ∀ j, j < 20 → defaultValue (t_Cod j) = vp_V z_Cod j := by decide +kernel
set_option maxRecDepth 20000 in
theorem i_Cod : ∀ w ∈ u_ws "SignalTheatre$Code" F_Cod 20, w ∈ q_big := by
  intro w hw
  obtain ⟨k, hk, rfl⟩ := List.mem_map.mp hw
  have hk := List.mem_range.mp hk
  match k, hk with
  | 0, _ => exact mc_90
  | 1, _ => exact mc_91
  | 2, _ => exact mc_92
  | 3, _ => exact mc_93
  | 4, _ => exact mc_94
  | 5, _ => exact mc_95
  | 6, _ => exact mc_96
  | 7, _ => exact mc_97
  | 8, _ => exact mc_98
  | 9, _ => exact mc_99
  | 10, _ => exact mc_100
  | 11, _ => exact mc_101
  | 12, _ => exact mc_102
  | 13, _ => exact mc_103
  | 14, _ => exact mc_104
  | 15, _ => exact mc_105
  | 16, _ => exact mc_106
  | 17, _ => exact mc_107
  | 18, _ => exact mc_108
  | 19, _ => exact mc_109
  | k + 20, h => omega
def F_Sig : u_T := fun k => match k with
  | 0 => ("SignalTheatre$Signal", "width", "I", false)
  | 1 => ("SignalTheatre$Signal", "signed", "Z", false)
  | 2 => ("SignalTheatre$Signal", "low", "I", false)
  | 3 => ("SignalTheatre$Signal", "words", "I", false)
  | 4 => ("SignalTheatre$Signal", "wordLow", "I", false)
  | 5 => ("SignalTheatre$Signal", "sort", "I", false)
  | 6 => ("SignalTheatre$Signal", "port", "I", false)
  | 7 => ("SignalTheatre$Signal", "linked", "Z", false)
  | 8 => ("SignalTheatre$Signal", "cell", "I", false)
  | 9 => ("SignalTheatre$Signal", "scope", "I", false)
  | 10 => ("SignalTheatre$Signal", "place", "I", false)
  | 11 => ("SignalTheatre$Signal", "bytes", "I", false)
  | _ => ("SignalTheatre$Signal", "driver", "I", false)
def t_Sig : Nat → FieldType := fun k => match k with
  | 0 => .int
  | 1 => .boolean
  | 2 => .int
  | 3 => .int
  | 4 => .int
  | 5 => .int
  | 6 => .int
  | 7 => .boolean
  | 8 => .int
  | 9 => .int
  | 10 => .int
  | 11 => .int
  | _ => .int
theorem n_Sig : ∀ a, a < 13 → ∀ b, b < 13 → a ≠ b → (F_Sig a).2.1 ≠ (F_Sig b).2.1 := by decide +kernel
theorem t_Sig_ok : ∀ k, k < 13 → parseFieldDescriptor (F_Sig k).2.2.1 = some (t_Sig k) := by decide +kernel
abbrev z_Sig : List Value := [.int 0, .int 0, .int 0, .int 0, .int 0, .int 0, .int 0, .int 0, .int 0, .int 0, .int 0, .int 0, .int 0]
theorem z_Sig_ok : ∀ j, j < 13 → defaultValue (t_Sig j) = vp_V z_Sig j := by decide +kernel
set_option maxRecDepth 20000 in
theorem i_Sig : ∀ w ∈ u_ws "SignalTheatre$Signal" F_Sig 13, w ∈ q_big := by
  intro w hw
  obtain ⟨k, hk, rfl⟩ := List.mem_map.mp hw
  have hk := List.mem_range.mp hk
  match k, hk with
  | 0, _ => exact mc_110
  | 1, _ => exact mc_111
  | 2, _ => exact mc_112
  | 3, _ => exact mc_113
  | 4, _ => exact mc_114
  | 5, _ => exact mc_115
  | 6, _ => exact mc_116
  | 7, _ => exact mc_117
  | 8, _ => exact mc_118
  | 9, _ => exact mc_119
  | 10, _ => exact mc_120
  | 11, _ => exact mc_121
  | 12, _ => exact mc_122
  | k + 13, h => omega
def F_Bui : u_T := fun k => match k with
  | 0 => ("SignalTheatre$Builder", "tokens", "LSignalTheatre$Tokens;", true)
  | 1 => ("SignalTheatre$Builder", "faults", "LSignalTheatre$Faults;", true)
  | 2 => ("SignalTheatre$Builder", "maker", "LSignalTheatre$Maker;", true)
  | 3 => ("SignalTheatre$Builder", "reader", "LSignalTheatre$Reader;", true)
  | 4 => ("SignalTheatre$Builder", "circuit", "LSignalTheatre$Circuit;", false)
  | 5 => ("SignalTheatre$Builder", "mould", "LSignalTheatre$Signal;", true)
  | 6 => ("SignalTheatre$Builder", "moduleStart", "[I", true)
  | 7 => ("SignalTheatre$Builder", "moduleEnd", "[I", true)
  | 8 => ("SignalTheatre$Builder", "modules", "I", false)
  | 9 => ("SignalTheatre$Builder", "instantiated", "[I", true)
  | 10 => ("SignalTheatre$Builder", "inside", "Z", false)
  | 11 => ("SignalTheatre$Builder", "done", "Z", false)
  | 12 => ("SignalTheatre$Builder", "backTo", "[I", true)
  | 13 => ("SignalTheatre$Builder", "scopeOutside", "[I", true)
  | 14 => ("SignalTheatre$Builder", "symbolsOutside", "[I", true)
  | 15 => ("SignalTheatre$Builder", "deep", "I", false)
  | 16 => ("SignalTheatre$Builder", "instances", "I", false)
  | _ => ("SignalTheatre$Builder", "tokensDone", "I", false)
def t_Bui : Nat → FieldType := fun k => match k with
  | 0 => .object "SignalTheatre$Tokens"
  | 1 => .object "SignalTheatre$Faults"
  | 2 => .object "SignalTheatre$Maker"
  | 3 => .object "SignalTheatre$Reader"
  | 4 => .object "SignalTheatre$Circuit"
  | 5 => .object "SignalTheatre$Signal"
  | 6 => .array .int
  | 7 => .array .int
  | 8 => .int
  | 9 => .array .int
  | 10 => .boolean
  | 11 => .boolean
  | 12 => .array .int
  | 13 => .array .int
  | 14 => .array .int
  | 15 => .int
  | 16 => .int
  | _ => .int
theorem n_Bui : ∀ a, a < 18 → ∀ b, b < 18 → a ≠ b → (F_Bui a).2.1 ≠ (F_Bui b).2.1 := by decide +kernel
theorem t_Bui_ok : ∀ k, k < 18 → parseFieldDescriptor (F_Bui k).2.2.1 = some (t_Bui k) := by decide +kernel
abbrev z_Bui : List Value := [.null, .null, .null, .null, .null, .null, .null, .null, .int 0, .null, .int 0, .int 0, .null, .null, .null, .int 0, .int 0, .int 0]
theorem z_Bui_ok : ∀ j, j < 18 → defaultValue (t_Bui j) = vp_V z_Bui j := by decide +kernel
set_option maxRecDepth 20000 in
theorem i_Bui : ∀ w ∈ u_ws "SignalTheatre$Builder" F_Bui 18, w ∈ q_big := by
  intro w hw
  obtain ⟨k, hk, rfl⟩ := List.mem_map.mp hw
  have hk := List.mem_range.mp hk
  match k, hk with
  | 0, _ => exact mc_123
  | 1, _ => exact mc_124
  | 2, _ => exact mc_125
  | 3, _ => exact mc_126
  | 4, _ => exact mc_127
  | 5, _ => exact mc_128
  | 6, _ => exact mc_129
  | 7, _ => exact mc_130
  | 8, _ => exact mc_131
  | 9, _ => exact mc_132
  | 10, _ => exact mc_133
  | 11, _ => exact mc_134
  | 12, _ => exact mc_135
  | 13, _ => exact mc_136
  | 14, _ => exact mc_137
  | 15, _ => exact mc_138
  | 16, _ => exact mc_139
  | 17, _ => exact mc_140
  | k + 18, h => omega
def F_Sta : u_T := fun k => match k with
  | 0 => ("SignalTheatre$Stage", "agenda", "LSignalTheatre$Agenda;", true)
  | 1 => ("SignalTheatre$Stage", "worth", "LSignalTheatre$Worth;", true)
  | 2 => ("SignalTheatre$Stage", "book", "LSignalTheatre$Book;", true)
  | 3 => ("SignalTheatre$Stage", "circuit", "LSignalTheatre$Circuit;", false)
  | 4 => ("SignalTheatre$Stage", "code", "LSignalTheatre$Code;", false)
  | 5 => ("SignalTheatre$Stage", "line", "[I", true)
  | 6 => ("SignalTheatre$Stage", "heldOnes", "[J", true)
  | 7 => ("SignalTheatre$Stage", "heldUnknown", "[J", true)
  | 8 => ("SignalTheatre$Stage", "events", "[I", true)
  | 9 => ("SignalTheatre$Stage", "heeded", "[J", true)
  | 10 => ("SignalTheatre$Stage", "waiting", "[I", true)
  | 11 => ("SignalTheatre$Stage", "waitingCount", "I", false)
  | 12 => ("SignalTheatre$Stage", "counters", "[J", true)
  | 13 => ("SignalTheatre$Stage", "midst", "I", false)
  | 14 => ("SignalTheatre$Stage", "over", "I", false)
  | 15 => ("SignalTheatre$Stage", "left", "I", false)
  | 16 => ("SignalTheatre$Stage", "cost", "I", false)
  | _ => ("SignalTheatre$Stage", "end", "I", false)
def t_Sta : Nat → FieldType := fun k => match k with
  | 0 => .object "SignalTheatre$Agenda"
  | 1 => .object "SignalTheatre$Worth"
  | 2 => .object "SignalTheatre$Book"
  | 3 => .object "SignalTheatre$Circuit"
  | 4 => .object "SignalTheatre$Code"
  | 5 => .array .int
  | 6 => .array .long
  | 7 => .array .long
  | 8 => .array .int
  | 9 => .array .long
  | 10 => .array .int
  | 11 => .int
  | 12 => .array .long
  | 13 => .int
  | 14 => .int
  | 15 => .int
  | 16 => .int
  | _ => .int
theorem n_Sta : ∀ a, a < 18 → ∀ b, b < 18 → a ≠ b → (F_Sta a).2.1 ≠ (F_Sta b).2.1 := by decide +kernel
theorem t_Sta_ok : ∀ k, k < 18 → parseFieldDescriptor (F_Sta k).2.2.1 = some (t_Sta k) := by decide +kernel
abbrev z_Sta : List Value := [.null, .null, .null, .null, .null, .null, .null, .null, .null, .null, .null, .int 0, .null, .int 0, .int 0, .int 0, .int 0, .int 0]
theorem z_Sta_ok : ∀ j, j < 18 → defaultValue (t_Sta j) = vp_V z_Sta j := by decide +kernel
set_option maxRecDepth 20000 in
theorem i_Sta : ∀ w ∈ u_ws "SignalTheatre$Stage" F_Sta 18, w ∈ q_big := by
  intro w hw
  obtain ⟨k, hk, rfl⟩ := List.mem_map.mp hw
  have hk := List.mem_range.mp hk
  match k, hk with
  | 0, _ => exact mc_141
  | 1, _ => exact mc_142
  | 2, _ => exact mc_143
  | 3, _ => exact mc_144
  | 4, _ => exact mc_145
  | 5, _ => exact mc_146
  | 6, _ => exact mc_147
  | 7, _ => exact mc_148
  | 8, _ => exact mc_149
  | 9, _ => exact mc_150
  | 10, _ => exact mc_151
  | 11, _ => exact mc_152
  | 12, _ => exact mc_153
  | 13, _ => exact mc_154
  | 14, _ => exact mc_155
  | 15, _ => exact mc_156
  | 16, _ => exact mc_157
  | 17, _ => exact mc_158
  | k + 18, h => omega
def F_Age : u_T := fun k => match k with
  | 0 => ("SignalTheatre$Agenda", "now", "J", false)
  | 1 => ("SignalTheatre$Agenda", "next", "[I", true)
  | 2 => ("SignalTheatre$Agenda", "head", "[I", true)
  | 3 => ("SignalTheatre$Agenda", "tail", "[I", true)
  | 4 => ("SignalTheatre$Agenda", "size", "[I", true)
  | 5 => ("SignalTheatre$Agenda", "due", "[J", true)
  | 6 => ("SignalTheatre$Agenda", "rank", "[J", true)
  | 7 => ("SignalTheatre$Agenda", "event", "[I", true)
  | 8 => ("SignalTheatre$Agenda", "future", "I", false)
  | 9 => ("SignalTheatre$Agenda", "ranks", "J", false)
  | 10 => ("SignalTheatre$Agenda", "settings", "I", false)
  | 11 => ("SignalTheatre$Agenda", "signal", "[I", true)
  | 12 => ("SignalTheatre$Agenda", "spot", "[I", true)
  | 13 => ("SignalTheatre$Agenda", "width", "[I", true)
  | 14 => ("SignalTheatre$Agenda", "ones", "[J", true)
  | _ => ("SignalTheatre$Agenda", "unknown", "[J", true)
def t_Age : Nat → FieldType := fun k => match k with
  | 0 => .long
  | 1 => .array .int
  | 2 => .array .int
  | 3 => .array .int
  | 4 => .array .int
  | 5 => .array .long
  | 6 => .array .long
  | 7 => .array .int
  | 8 => .int
  | 9 => .long
  | 10 => .int
  | 11 => .array .int
  | 12 => .array .int
  | 13 => .array .int
  | 14 => .array .long
  | _ => .array .long
theorem n_Age : ∀ a, a < 16 → ∀ b, b < 16 → a ≠ b → (F_Age a).2.1 ≠ (F_Age b).2.1 := by decide +kernel
theorem t_Age_ok : ∀ k, k < 16 → parseFieldDescriptor (F_Age k).2.2.1 = some (t_Age k) := by decide +kernel
abbrev z_Age : List Value := [.long 0, .null, .null, .null, .null, .null, .null, .null, .int 0, .long 0, .int 0, .null, .null, .null, .null, .null]
theorem z_Age_ok : ∀ j, j < 16 → defaultValue (t_Age j) = vp_V z_Age j := by decide +kernel
set_option maxRecDepth 20000 in
theorem i_Age : ∀ w ∈ u_ws "SignalTheatre$Agenda" F_Age 16, w ∈ q_big := by
  intro w hw
  obtain ⟨k, hk, rfl⟩ := List.mem_map.mp hw
  have hk := List.mem_range.mp hk
  match k, hk with
  | 0, _ => exact mc_159
  | 1, _ => exact mc_160
  | 2, _ => exact mc_161
  | 3, _ => exact mc_162
  | 4, _ => exact mc_163
  | 5, _ => exact mc_164
  | 6, _ => exact mc_165
  | 7, _ => exact mc_166
  | 8, _ => exact mc_167
  | 9, _ => exact mc_168
  | 10, _ => exact mc_169
  | 11, _ => exact mc_170
  | 12, _ => exact mc_171
  | 13, _ => exact mc_172
  | 14, _ => exact mc_173
  | 15, _ => exact mc_174
  | k + 16, h => omega
def F_Boo : u_T := fun k => match k with
  | 0 => ("SignalTheatre$Book", "bytes", "[B", true)
  | 1 => ("SignalTheatre$Book", "size", "I", false)
  | 2 => ("SignalTheatre$Book", "string", "[B", true)
  | 3 => ("SignalTheatre$Book", "digits", "[I", true)
  | 4 => ("SignalTheatre$Book", "worth", "LSignalTheatre$Worth;", true)
  | _ => ("SignalTheatre$Book", "circuit", "LSignalTheatre$Circuit;", false)
def t_Boo : Nat → FieldType := fun k => match k with
  | 0 => .array .byte
  | 1 => .int
  | 2 => .array .byte
  | 3 => .array .int
  | 4 => .object "SignalTheatre$Worth"
  | _ => .object "SignalTheatre$Circuit"
theorem n_Boo : ∀ a, a < 6 → ∀ b, b < 6 → a ≠ b → (F_Boo a).2.1 ≠ (F_Boo b).2.1 := by decide +kernel
theorem t_Boo_ok : ∀ k, k < 6 → parseFieldDescriptor (F_Boo k).2.2.1 = some (t_Boo k) := by decide +kernel
abbrev z_Boo : List Value := [.null, .int 0, .null, .null, .null, .null]
theorem z_Boo_ok : ∀ j, j < 6 → defaultValue (t_Boo j) = vp_V z_Boo j := by decide +kernel
set_option maxRecDepth 20000 in
theorem i_Boo : ∀ w ∈ u_ws "SignalTheatre$Book" F_Boo 6, w ∈ q_big := by
  intro w hw
  obtain ⟨k, hk, rfl⟩ := List.mem_map.mp hw
  have hk := List.mem_range.mp hk
  match k, hk with
  | 0, _ => exact mc_175
  | 1, _ => exact mc_176
  | 2, _ => exact mc_177
  | 3, _ => exact mc_178
  | 4, _ => exact mc_179
  | 5, _ => exact mc_180
  | k + 6, h => omega
def F_Mod : u_T := fun k => match k with
  | 0 => ("SignalTheatreModel", "input", "[B", true)
  | 1 => ("SignalTheatreModel", "size", "I", false)
  | 2 => ("SignalTheatreModel", "thrown", "I", false)
  | 3 => ("SignalTheatreModel", "faultNumber", "I", false)
  | 4 => ("SignalTheatreModel", "faultPlace", "I", false)
  | 5 => ("SignalTheatreModel", "tree", "LSignalTheatreModel$Tree;", true)
  | 6 => ("SignalTheatreModel", "other", "LSignalTheatreModel$Tree;", true)
  | 7 => ("SignalTheatreModel", "now", "LSignalTheatreModel$Tree;", false)
  | 8 => ("SignalTheatreModel", "spare", "LSignalTheatreModel$Tree;", false)
  | 9 => ("SignalTheatreModel", "circuit", "LSignalTheatreModel$Circuit;", false)
  | _ => ("SignalTheatreModel", "old", "LSignalTheatreModel$Circuit;", false)
def t_Mod : Nat → FieldType := fun k => match k with
  | 0 => .array .byte
  | 1 => .int
  | 2 => .int
  | 3 => .int
  | 4 => .int
  | 5 => .object "SignalTheatreModel$Tree"
  | 6 => .object "SignalTheatreModel$Tree"
  | 7 => .object "SignalTheatreModel$Tree"
  | 8 => .object "SignalTheatreModel$Tree"
  | 9 => .object "SignalTheatreModel$Circuit"
  | _ => .object "SignalTheatreModel$Circuit"
theorem n_Mod : ∀ a, a < 11 → ∀ b, b < 11 → a ≠ b → (F_Mod a).2.1 ≠ (F_Mod b).2.1 := by decide +kernel
theorem t_Mod_ok : ∀ k, k < 11 → parseFieldDescriptor (F_Mod k).2.2.1 = some (t_Mod k) := by decide +kernel
abbrev z_Mod : List Value := [.null, .int 0, .int 0, .int 0, .int 0, .null, .null, .null, .null, .null, .null]
theorem z_Mod_ok : ∀ j, j < 11 → defaultValue (t_Mod j) = vp_V z_Mod j := by decide +kernel
set_option maxRecDepth 20000 in
theorem i_Mod : ∀ w ∈ u_ws "SignalTheatreModel" F_Mod 11, w ∈ q_big := by
  intro w hw
  obtain ⟨k, hk, rfl⟩ := List.mem_map.mp hw
  have hk := List.mem_range.mp hk
  match k, hk with
  | 0, _ => exact mc_181
  | 1, _ => exact mc_182
  | 2, _ => exact mc_183
  | 3, _ => exact mc_184
  | 4, _ => exact mc_185
  | 5, _ => exact mc_186
  | 6, _ => exact mc_187
  | 7, _ => exact mc_188
  | 8, _ => exact mc_189
  | 9, _ => exact mc_190
  | 10, _ => exact mc_191
  | k + 11, h => omega
def F_Tre : u_T := fun k => match k with
  | 0 => ("SignalTheatreModel$Tree", "cut", "LSignalTheatreModel$Cut;", true)
  | 1 => ("SignalTheatreModel$Tree", "sort", "[I", true)
  | 2 => ("SignalTheatreModel$Tree", "a", "[I", true)
  | 3 => ("SignalTheatreModel$Tree", "b", "[I", true)
  | 4 => ("SignalTheatreModel$Tree", "c", "[I", true)
  | 5 => ("SignalTheatreModel$Tree", "d", "[I", true)
  | 6 => ("SignalTheatreModel$Tree", "next", "[I", true)
  | 7 => ("SignalTheatreModel$Tree", "token", "[I", true)
  | 8 => ("SignalTheatreModel$Tree", "low", "[I", true)
  | 9 => ("SignalTheatreModel$Tree", "first", "[I", true)
  | 10 => ("SignalTheatreModel$Tree", "nodes", "I", false)
  | 11 => ("SignalTheatreModel$Tree", "modules", "I", false)
  | 12 => ("SignalTheatreModel$Tree", "at", "I", false)
  | 13 => ("SignalTheatreModel$Tree", "depth", "I", false)
  | _ => ("SignalTheatreModel$Tree", "wrong", "LSignalTheatreModel$Wrong;", true)
def t_Tre : Nat → FieldType := fun k => match k with
  | 0 => .object "SignalTheatreModel$Cut"
  | 1 => .array .int
  | 2 => .array .int
  | 3 => .array .int
  | 4 => .array .int
  | 5 => .array .int
  | 6 => .array .int
  | 7 => .array .int
  | 8 => .array .int
  | 9 => .array .int
  | 10 => .int
  | 11 => .int
  | 12 => .int
  | 13 => .int
  | _ => .object "SignalTheatreModel$Wrong"
theorem n_Tre : ∀ a, a < 15 → ∀ b, b < 15 → a ≠ b → (F_Tre a).2.1 ≠ (F_Tre b).2.1 := by decide +kernel
theorem t_Tre_ok : ∀ k, k < 15 → parseFieldDescriptor (F_Tre k).2.2.1 = some (t_Tre k) := by decide +kernel
abbrev z_Tre : List Value := [.null, .null, .null, .null, .null, .null, .null, .null, .null, .null, .int 0, .int 0, .int 0, .int 0, .null]
theorem z_Tre_ok : ∀ j, j < 15 → defaultValue (t_Tre j) = vp_V z_Tre j := by decide +kernel
set_option maxRecDepth 20000 in
theorem i_Tre : ∀ w ∈ u_ws "SignalTheatreModel$Tree" F_Tre 15, w ∈ q_big := by
  intro w hw
  obtain ⟨k, hk, rfl⟩ := List.mem_map.mp hw
  have hk := List.mem_range.mp hk
  match k, hk with
  | 0, _ => exact mc_192
  | 1, _ => exact mc_193
  | 2, _ => exact mc_194
  | 3, _ => exact mc_195
  | 4, _ => exact mc_196
  | 5, _ => exact mc_197
  | 6, _ => exact mc_198
  | 7, _ => exact mc_199
  | 8, _ => exact mc_200
  | 9, _ => exact mc_201
  | 10, _ => exact mc_202
  | 11, _ => exact mc_203
  | 12, _ => exact mc_204
  | 13, _ => exact mc_205
  | 14, _ => exact mc_206
  | k + 15, h => omega
def F_Cut : u_T := fun k => match k with
  | 0 => ("SignalTheatreModel$Cut", "text", "[B", true)
  | 1 => ("SignalTheatreModel$Cut", "size", "I", false)
  | 2 => ("SignalTheatreModel$Cut", "many", "I", false)
  | 3 => ("SignalTheatreModel$Cut", "at", "I", false)
  | 4 => ("SignalTheatreModel$Cut", "kind", "[I", true)
  | 5 => ("SignalTheatreModel$Cut", "from", "[I", true)
  | 6 => ("SignalTheatreModel$Cut", "to", "[I", true)
  | 7 => ("SignalTheatreModel$Cut", "width", "[I", true)
  | 8 => ("SignalTheatreModel$Cut", "ones", "[J", true)
  | 9 => ("SignalTheatreModel$Cut", "unknown", "[J", true)
  | 10 => ("SignalTheatreModel$Cut", "signed", "[Z", true)
  | 11 => ("SignalTheatreModel$Cut", "broken", "Z", false)
  | 12 => ("SignalTheatreModel$Cut", "value", "J", false)
  | 13 => ("SignalTheatreModel$Cut", "gone", "J", false)
  | 14 => ("SignalTheatreModel$Cut", "open", "J", false)
  | 15 => ("SignalTheatreModel$Cut", "told", "I", false)
  | _ => ("SignalTheatreModel$Cut", "highest", "I", false)
def t_Cut : Nat → FieldType := fun k => match k with
  | 0 => .array .byte
  | 1 => .int
  | 2 => .int
  | 3 => .int
  | 4 => .array .int
  | 5 => .array .int
  | 6 => .array .int
  | 7 => .array .int
  | 8 => .array .long
  | 9 => .array .long
  | 10 => .array .boolean
  | 11 => .boolean
  | 12 => .long
  | 13 => .long
  | 14 => .long
  | 15 => .int
  | _ => .int
theorem n_Cut : ∀ a, a < 17 → ∀ b, b < 17 → a ≠ b → (F_Cut a).2.1 ≠ (F_Cut b).2.1 := by decide +kernel
theorem t_Cut_ok : ∀ k, k < 17 → parseFieldDescriptor (F_Cut k).2.2.1 = some (t_Cut k) := by decide +kernel
abbrev z_Cut : List Value := [.null, .int 0, .int 0, .int 0, .null, .null, .null, .null, .null, .null, .null, .int 0, .long 0, .long 0, .long 0, .int 0, .int 0]
theorem z_Cut_ok : ∀ j, j < 17 → defaultValue (t_Cut j) = vp_V z_Cut j := by decide +kernel
set_option maxRecDepth 20000 in
theorem i_Cut : ∀ w ∈ u_ws "SignalTheatreModel$Cut" F_Cut 17, w ∈ q_big := by
  intro w hw
  obtain ⟨k, hk, rfl⟩ := List.mem_map.mp hw
  have hk := List.mem_range.mp hk
  match k, hk with
  | 0, _ => exact mc_207
  | 1, _ => exact mc_208
  | 2, _ => exact mc_209
  | 3, _ => exact mc_210
  | 4, _ => exact mc_211
  | 5, _ => exact mc_212
  | 6, _ => exact mc_213
  | 7, _ => exact mc_214
  | 8, _ => exact mc_215
  | 9, _ => exact mc_216
  | 10, _ => exact mc_217
  | 11, _ => exact mc_218
  | 12, _ => exact mc_219
  | 13, _ => exact mc_220
  | 14, _ => exact mc_221
  | 15, _ => exact mc_222
  | 16, _ => exact mc_223
  | k + 17, h => omega
def F_Wro : u_T := fun k => match k with
  | 0 => ("java/lang/Throwable", "cause", "Ljava/lang/Throwable;", false)
  | 1 => ("java/lang/Throwable", "stackTrace", "[Ljava/lang/StackTraceElement;", false)
  | 2 => ("java/lang/Throwable", "suppressedExceptions", "Ljava/util/List;", false)
  | 3 => ("java/lang/Throwable", "detailMessage", "Ljava/lang/String;", false)
  | 4 => ("java/lang/Throwable", "backtrace", "Ljava/lang/Object;", false)
  | 5 => ("SignalTheatreModel$Wrong", "number", "I", false)
  | 6 => ("SignalTheatreModel$Wrong", "place", "I", false)
  | _ => ("java/lang/Throwable", "depth", "I", false)
def t_Wro : Nat → FieldType := fun k => match k with
  | 0 => .object "java/lang/Throwable"
  | 1 => .array (.object "java/lang/StackTraceElement")
  | 2 => .object "java/util/List"
  | 3 => .object "java/lang/String"
  | 4 => .object "java/lang/Object"
  | 5 => .int
  | 6 => .int
  | _ => .int
theorem n_Wro : ∀ a, a < 8 → ∀ b, b < 8 → a ≠ b → (F_Wro a).2.1 ≠ (F_Wro b).2.1 := by decide +kernel
theorem t_Wro_ok : ∀ k, k < 8 → parseFieldDescriptor (F_Wro k).2.2.1 = some (t_Wro k) := by decide +kernel
abbrev z_Wro : List Value := [.null, .null, .null, .null, .null, .int 0, .int 0, .int 0]
theorem z_Wro_ok : ∀ j, j < 8 → defaultValue (t_Wro j) = vp_V z_Wro j := by decide +kernel
set_option maxRecDepth 20000 in
theorem i_Wro : ∀ w ∈ u_ws "SignalTheatreModel$Wrong" F_Wro 8, w ∈ q_big := by
  intro w hw
  obtain ⟨k, hk, rfl⟩ := List.mem_map.mp hw
  have hk := List.mem_range.mp hk
  match k, hk with
  | 0, _ => exact mc_224
  | 1, _ => exact mc_225
  | 2, _ => exact mc_226
  | 3, _ => exact mc_227
  | 4, _ => exact mc_228
  | 5, _ => exact mc_229
  | 6, _ => exact mc_230
  | 7, _ => exact mc_231
  | k + 8, h => omega
def F_Mci : u_T := fun k => match k with
  | 0 => ("SignalTheatreModel$Circuit", "tree", "LSignalTheatreModel$Tree;", false)
  | 1 => ("SignalTheatreModel$Circuit", "there", "Z", false)
  | 2 => ("SignalTheatreModel$Circuit", "instModule", "[I", true)
  | 3 => ("SignalTheatreModel$Circuit", "instAround", "[I", true)
  | 4 => ("SignalTheatreModel$Circuit", "instName", "[I", true)
  | 5 => ("SignalTheatreModel$Circuit", "instDeep", "[I", true)
  | 6 => ("SignalTheatreModel$Circuit", "instFirst", "[I", true)
  | 7 => ("SignalTheatreModel$Circuit", "instances", "I", false)
  | 8 => ("SignalTheatreModel$Circuit", "tokens", "I", false)
  | 9 => ("SignalTheatreModel$Circuit", "symToken", "[I", false)
  | 10 => ("SignalTheatreModel$Circuit", "symSort", "[I", false)
  | 11 => ("SignalTheatreModel$Circuit", "symIndex", "[I", false)
  | 12 => ("SignalTheatreModel$Circuit", "symNext", "[I", false)
  | 13 => ("SignalTheatreModel$Circuit", "symbols", "I", false)
  | 14 => ("SignalTheatreModel$Circuit", "varToken", "[I", true)
  | 15 => ("SignalTheatreModel$Circuit", "varInst", "[I", true)
  | 16 => ("SignalTheatreModel$Circuit", "varWidth", "[I", true)
  | 17 => ("SignalTheatreModel$Circuit", "varLow", "[I", true)
  | 18 => ("SignalTheatreModel$Circuit", "varWords", "[I", true)
  | 19 => ("SignalTheatreModel$Circuit", "varWordLow", "[I", true)
  | 20 => ("SignalTheatreModel$Circuit", "varKind", "[I", true)
  | 21 => ("SignalTheatreModel$Circuit", "varAt", "[I", true)
  | 22 => ("SignalTheatreModel$Circuit", "varSigned", "[Z", true)
  | 23 => ("SignalTheatreModel$Circuit", "varRange", "[Z", true)
  | 24 => ("SignalTheatreModel$Circuit", "vars", "I", false)
  | 25 => ("SignalTheatreModel$Circuit", "words", "I", false)
  | 26 => ("SignalTheatreModel$Circuit", "constants", "[I", false)
  | 27 => ("SignalTheatreModel$Circuit", "constantMany", "I", false)
  | 28 => ("SignalTheatreModel$Circuit", "driveLeft", "[I", true)
  | 29 => ("SignalTheatreModel$Circuit", "driveLeftInst", "[I", true)
  | 30 => ("SignalTheatreModel$Circuit", "driveRight", "[I", true)
  | 31 => ("SignalTheatreModel$Circuit", "driveRightInst", "[I", true)
  | 32 => ("SignalTheatreModel$Circuit", "procNode", "[I", true)
  | 33 => ("SignalTheatreModel$Circuit", "procInst", "[I", true)
  | 34 => ("SignalTheatreModel$Circuit", "procAlways", "[Z", true)
  | 35 => ("SignalTheatreModel$Circuit", "order", "[I", true)
  | 36 => ("SignalTheatreModel$Circuit", "drives", "I", false)
  | 37 => ("SignalTheatreModel$Circuit", "processes", "I", false)
  | 38 => ("SignalTheatreModel$Circuit", "ordered", "I", false)
  | 39 => ("SignalTheatreModel$Circuit", "wrong", "LSignalTheatreModel$Wrong;", true)
  | 40 => ("SignalTheatreModel$Circuit", "best", "I", false)
  | 41 => ("SignalTheatreModel$Circuit", "bestNumber", "I", false)
  | 42 => ("SignalTheatreModel$Circuit", "wide", "[I", true)
  | 43 => ("SignalTheatreModel$Circuit", "askedWide", "[I", true)
  | 44 => ("SignalTheatreModel$Circuit", "nodeVar", "[I", true)
  | 45 => ("SignalTheatreModel$Circuit", "extra", "[I", true)
  | 46 => ("SignalTheatreModel$Circuit", "sign", "[Z", true)
  | 47 => ("SignalTheatreModel$Circuit", "askedSign", "[Z", true)
  | 48 => ("SignalTheatreModel$Circuit", "ones", "[J", true)
  | 49 => ("SignalTheatreModel$Circuit", "gone", "[J", true)
  | 50 => ("SignalTheatreModel$Circuit", "stamp", "[I", true)
  | 51 => ("SignalTheatreModel$Circuit", "time", "J", false)
  | 52 => ("SignalTheatreModel$Circuit", "state", "[J", true)
  | 53 => ("SignalTheatreModel$Circuit", "stateGone", "[J", true)
  | 54 => ("SignalTheatreModel$Circuit", "word", "[J", true)
  | 55 => ("SignalTheatreModel$Circuit", "wordGone", "[J", true)
  | 56 => ("SignalTheatreModel$Circuit", "active", "LSignalTheatreModel$Circuit$Row;", true)
  | 57 => ("SignalTheatreModel$Circuit", "inactive", "LSignalTheatreModel$Circuit$Row;", true)
  | 58 => ("SignalTheatreModel$Circuit", "later", "LSignalTheatreModel$Circuit$Row;", true)
  | 59 => ("SignalTheatreModel$Circuit", "future", "LSignalTheatreModel$Circuit$Row;", true)
  | 60 => ("SignalTheatreModel$Circuit", "procState", "[I", true)
  | 61 => ("SignalTheatreModel$Circuit", "waitTurn", "[I", true)
  | 62 => ("SignalTheatreModel$Circuit", "pile", "[I", true)
  | 63 => ("SignalTheatreModel$Circuit", "node", "[I", true)
  | 64 => ("SignalTheatreModel$Circuit", "phase", "[I", true)
  | 65 => ("SignalTheatreModel$Circuit", "left", "[J", true)
  | 66 => ("SignalTheatreModel$Circuit", "keptOnes", "[J", true)
  | 67 => ("SignalTheatreModel$Circuit", "keptGone", "[J", true)
  | 68 => ("SignalTheatreModel$Circuit", "turns", "I", false)
  | 69 => ("SignalTheatreModel$Circuit", "current", "I", false)
  | 70 => ("SignalTheatreModel$Circuit", "budget", "I", false)
  | 71 => ("SignalTheatreModel$Circuit", "cost", "I", false)
  | 72 => ("SignalTheatreModel$Circuit", "ending", "I", false)
  | 73 => ("SignalTheatreModel$Circuit", "log", "[B", true)
  | 74 => ("SignalTheatreModel$Circuit", "logged", "I", false)
  | 75 => ("SignalTheatreModel$Circuit", "targetVar", "I", false)
  | 76 => ("SignalTheatreModel$Circuit", "targetWord", "I", false)
  | 77 => ("SignalTheatreModel$Circuit", "targetLow", "I", false)
  | 78 => ("SignalTheatreModel$Circuit", "targetMask", "J", false)
  | 79 => ("SignalTheatreModel$Circuit", "partVar", "[I", true)
  | 80 => ("SignalTheatreModel$Circuit", "partWord", "[I", true)
  | 81 => ("SignalTheatreModel$Circuit", "partLow", "[I", true)
  | 82 => ("SignalTheatreModel$Circuit", "partShift", "[I", true)
  | 83 => ("SignalTheatreModel$Circuit", "partMask", "[J", true)
  | 84 => ("SignalTheatreModel$Circuit", "parts", "I", false)
  | 85 => ("SignalTheatreModel$Circuit", "valueOnes", "J", false)
  | 86 => ("SignalTheatreModel$Circuit", "valueGone", "J", false)
  | 87 => ("SignalTheatreModel$Circuit", "partOf", "[I", true)
  | 88 => ("SignalTheatreModel$Circuit", "driveVar", "[I", true)
  | 89 => ("SignalTheatreModel$Circuit", "driveLow", "[I", true)
  | 90 => ("SignalTheatreModel$Circuit", "driveShift", "[I", true)
  | 91 => ("SignalTheatreModel$Circuit", "driveMask", "[J", true)
  | 92 => ("SignalTheatreModel$Circuit", "driveOnes", "[J", true)
  | 93 => ("SignalTheatreModel$Circuit", "driveGone", "[J", true)
  | 94 => ("SignalTheatreModel$Circuit", "driveParts", "I", false)
  | 95 => ("SignalTheatreModel$Circuit", "digits", "[B", true)
  | 96 => ("SignalTheatreModel$Circuit", "digitMany", "I", false)
  | 97 => ("SignalTheatreModel$Circuit", "bad", "[Z", true)
  | 98 => ("SignalTheatreModel$Circuit", "rangeLow", "I", false)
  | _ => ("SignalTheatreModel$Circuit", "rangeBad", "Z", false)
def t_Mci : Nat → FieldType := fun k => match k with
  | 0 => .object "SignalTheatreModel$Tree"
  | 1 => .boolean
  | 2 => .array .int
  | 3 => .array .int
  | 4 => .array .int
  | 5 => .array .int
  | 6 => .array .int
  | 7 => .int
  | 8 => .int
  | 9 => .array .int
  | 10 => .array .int
  | 11 => .array .int
  | 12 => .array .int
  | 13 => .int
  | 14 => .array .int
  | 15 => .array .int
  | 16 => .array .int
  | 17 => .array .int
  | 18 => .array .int
  | 19 => .array .int
  | 20 => .array .int
  | 21 => .array .int
  | 22 => .array .boolean
  | 23 => .array .boolean
  | 24 => .int
  | 25 => .int
  | 26 => .array .int
  | 27 => .int
  | 28 => .array .int
  | 29 => .array .int
  | 30 => .array .int
  | 31 => .array .int
  | 32 => .array .int
  | 33 => .array .int
  | 34 => .array .boolean
  | 35 => .array .int
  | 36 => .int
  | 37 => .int
  | 38 => .int
  | 39 => .object "SignalTheatreModel$Wrong"
  | 40 => .int
  | 41 => .int
  | 42 => .array .int
  | 43 => .array .int
  | 44 => .array .int
  | 45 => .array .int
  | 46 => .array .boolean
  | 47 => .array .boolean
  | 48 => .array .long
  | 49 => .array .long
  | 50 => .array .int
  | 51 => .long
  | 52 => .array .long
  | 53 => .array .long
  | 54 => .array .long
  | 55 => .array .long
  | 56 => .object "SignalTheatreModel$Circuit$Row"
  | 57 => .object "SignalTheatreModel$Circuit$Row"
  | 58 => .object "SignalTheatreModel$Circuit$Row"
  | 59 => .object "SignalTheatreModel$Circuit$Row"
  | 60 => .array .int
  | 61 => .array .int
  | 62 => .array .int
  | 63 => .array .int
  | 64 => .array .int
  | 65 => .array .long
  | 66 => .array .long
  | 67 => .array .long
  | 68 => .int
  | 69 => .int
  | 70 => .int
  | 71 => .int
  | 72 => .int
  | 73 => .array .byte
  | 74 => .int
  | 75 => .int
  | 76 => .int
  | 77 => .int
  | 78 => .long
  | 79 => .array .int
  | 80 => .array .int
  | 81 => .array .int
  | 82 => .array .int
  | 83 => .array .long
  | 84 => .int
  | 85 => .long
  | 86 => .long
  | 87 => .array .int
  | 88 => .array .int
  | 89 => .array .int
  | 90 => .array .int
  | 91 => .array .long
  | 92 => .array .long
  | 93 => .array .long
  | 94 => .int
  | 95 => .array .byte
  | 96 => .int
  | 97 => .array .boolean
  | 98 => .int
  | _ => .boolean
theorem n_Mci : ∀ a, a < 100 → ∀ b, b < 100 → a ≠ b → (F_Mci a).2.1 ≠ (F_Mci b).2.1 := by decide +kernel
theorem t_Mci_ok : ∀ k, k < 100 → parseFieldDescriptor (F_Mci k).2.2.1 = some (t_Mci k) := by decide +kernel
abbrev z_Mci : List Value := [.null, .int 0, .null, .null, .null, .null, .null, .int 0, .int 0, .null, .null, .null, .null, .int 0, .null, .null, .null, .null, .null, .null, .null, .null, .null, .null, .int 0, .int 0, .null, .int 0, .null, .null, .null, .null, .null, .null, .null, .null, .int 0, .int 0, .int 0, .null, .int 0, .int 0, .null, .null, .null, .null, .null, .null, .null, .null, .null, .long 0, .null, .null, .null, .null, .null, .null, .null, .null, .null, .null, .null, .null, .null, .null, .null, .null, .int 0, .int 0, .int 0, .int 0, .int 0, .null, .int 0, .int 0, .int 0, .int 0, .long 0, .null, .null, .null, .null, .null, .int 0, .long 0, .long 0, .null, .null, .null, .null, .null, .null, .null, .int 0, .null, .int 0, .null, .int 0, .int 0]
theorem z_Mci_ok : ∀ j, j < 100 → defaultValue (t_Mci j) = vp_V z_Mci j := by decide +kernel
set_option maxRecDepth 20000 in
theorem i_Mci : ∀ w ∈ u_ws "SignalTheatreModel$Circuit" F_Mci 100, w ∈ q_big := by
  intro w hw
  obtain ⟨k, hk, rfl⟩ := List.mem_map.mp hw
  have hk := List.mem_range.mp hk
  match k, hk with
  | 0, _ => exact mc_232
  | 1, _ => exact mc_233
  | 2, _ => exact mc_234
  | 3, _ => exact mc_235
  | 4, _ => exact mc_236
  | 5, _ => exact mc_237
  | 6, _ => exact mc_238
  | 7, _ => exact mc_239
  | 8, _ => exact mc_240
  | 9, _ => exact mc_241
  | 10, _ => exact mc_242
  | 11, _ => exact mc_243
  | 12, _ => exact mc_244
  | 13, _ => exact mc_245
  | 14, _ => exact mc_246
  | 15, _ => exact mc_247
  | 16, _ => exact mc_248
  | 17, _ => exact mc_249
  | 18, _ => exact mc_250
  | 19, _ => exact mc_251
  | 20, _ => exact mc_252
  | 21, _ => exact mc_253
  | 22, _ => exact mc_254
  | 23, _ => exact mc_255
  | 24, _ => exact mc_256
  | 25, _ => exact mc_257
  | 26, _ => exact mc_258
  | 27, _ => exact mc_259
  | 28, _ => exact mc_260
  | 29, _ => exact mc_261
  | 30, _ => exact mc_262
  | 31, _ => exact mc_263
  | 32, _ => exact mc_264
  | 33, _ => exact mc_265
  | 34, _ => exact mc_266
  | 35, _ => exact mc_267
  | 36, _ => exact mc_268
  | 37, _ => exact mc_269
  | 38, _ => exact mc_270
  | 39, _ => exact mc_271
  | 40, _ => exact mc_272
  | 41, _ => exact mc_273
  | 42, _ => exact mc_274
  | 43, _ => exact mc_275
  | 44, _ => exact mc_276
  | 45, _ => exact mc_277
  | 46, _ => exact mc_278
  | 47, _ => exact mc_279
  | 48, _ => exact mc_280
  | 49, _ => exact mc_281
  | 50, _ => exact mc_282
  | 51, _ => exact mc_283
  | 52, _ => exact mc_284
  | 53, _ => exact mc_285
  | 54, _ => exact mc_286
  | 55, _ => exact mc_287
  | 56, _ => exact mc_288
  | 57, _ => exact mc_289
  | 58, _ => exact mc_290
  | 59, _ => exact mc_291
  | 60, _ => exact mc_292
  | 61, _ => exact mc_293
  | 62, _ => exact mc_294
  | 63, _ => exact mc_295
  | 64, _ => exact mc_296
  | 65, _ => exact mc_297
  | 66, _ => exact mc_298
  | 67, _ => exact mc_299
  | 68, _ => exact mc_300
  | 69, _ => exact mc_301
  | 70, _ => exact mc_302
  | 71, _ => exact mc_303
  | 72, _ => exact mc_304
  | 73, _ => exact mc_305
  | 74, _ => exact mc_306
  | 75, _ => exact mc_307
  | 76, _ => exact mc_308
  | 77, _ => exact mc_309
  | 78, _ => exact mc_310
  | 79, _ => exact mc_311
  | 80, _ => exact mc_312
  | 81, _ => exact mc_313
  | 82, _ => exact mc_314
  | 83, _ => exact mc_315
  | 84, _ => exact mc_316
  | 85, _ => exact mc_317
  | 86, _ => exact mc_318
  | 87, _ => exact mc_319
  | 88, _ => exact mc_320
  | 89, _ => exact mc_321
  | 90, _ => exact mc_322
  | 91, _ => exact mc_323
  | 92, _ => exact mc_324
  | 93, _ => exact mc_325
  | 94, _ => exact mc_326
  | 95, _ => exact mc_327
  | 96, _ => exact mc_328
  | 97, _ => exact mc_329
  | 98, _ => exact mc_330
  | 99, _ => exact mc_331
  | k + 100, h => omega
def F_Row : u_T := fun k => match k with
  | 0 => ("SignalTheatreModel$Circuit$Row", "sort", "[I", true)
  | 1 => ("SignalTheatreModel$Circuit$Row", "index", "[I", true)
  | 2 => ("SignalTheatreModel$Circuit$Row", "word", "[I", true)
  | 3 => ("SignalTheatreModel$Circuit$Row", "ones", "[J", true)
  | 4 => ("SignalTheatreModel$Circuit$Row", "gone", "[J", true)
  | 5 => ("SignalTheatreModel$Circuit$Row", "mask", "[J", true)
  | 6 => ("SignalTheatreModel$Circuit$Row", "time", "[J", true)
  | 7 => ("SignalTheatreModel$Circuit$Row", "later", "[Z", true)
  | _ => ("SignalTheatreModel$Circuit$Row", "many", "I", false)
def t_Row : Nat → FieldType := fun k => match k with
  | 0 => .array .int
  | 1 => .array .int
  | 2 => .array .int
  | 3 => .array .long
  | 4 => .array .long
  | 5 => .array .long
  | 6 => .array .long
  | 7 => .array .boolean
  | _ => .int
theorem n_Row : ∀ a, a < 9 → ∀ b, b < 9 → a ≠ b → (F_Row a).2.1 ≠ (F_Row b).2.1 := by decide +kernel
theorem t_Row_ok : ∀ k, k < 9 → parseFieldDescriptor (F_Row k).2.2.1 = some (t_Row k) := by decide +kernel
abbrev z_Row : List Value := [.null, .null, .null, .null, .null, .null, .null, .null, .int 0]
theorem z_Row_ok : ∀ j, j < 9 → defaultValue (t_Row j) = vp_V z_Row j := by decide +kernel
set_option maxRecDepth 20000 in
theorem i_Row : ∀ w ∈ u_ws "SignalTheatreModel$Circuit$Row" F_Row 9, w ∈ q_big := by
  intro w hw
  obtain ⟨k, hk, rfl⟩ := List.mem_map.mp hw
  have hk := List.mem_range.mp hk
  match k, hk with
  | 0, _ => exact mc_332
  | 1, _ => exact mc_333
  | 2, _ => exact mc_334
  | 3, _ => exact mc_335
  | 4, _ => exact mc_336
  | 5, _ => exact mc_337
  | 6, _ => exact mc_338
  | 7, _ => exact mc_339
  | 8, _ => exact mc_340
  | k + 9, h => omega
abbrev q_cl : List vw_C := [("SignalTheatre", F_S, 8), ("SignalTheatre$Tokens", F_Tok, 20), ("SignalTheatre$Faults", F_Flt, 7), ("SignalTheatre$Maker", F_Mak, 18), ("SignalTheatre$Worth", F_Wor, 8), ("SignalTheatre$Reader", F_Rea, 9), ("SignalTheatre$Circuit", F_Cir, 20), ("SignalTheatre$Code", F_Cod, 20), ("SignalTheatre$Signal", F_Sig, 13), ("SignalTheatre$Builder", F_Bui, 18), ("SignalTheatre$Stage", F_Sta, 18), ("SignalTheatre$Agenda", F_Age, 16), ("SignalTheatre$Book", F_Boo, 6), ("SignalTheatreModel", F_Mod, 11), ("SignalTheatreModel$Tree", F_Tre, 15), ("SignalTheatreModel$Cut", F_Cut, 17), ("SignalTheatreModel$Wrong", F_Wro, 8), ("SignalTheatreModel$Circuit", F_Mci, 100), ("SignalTheatreModel$Circuit$Row", F_Row, 9)]
