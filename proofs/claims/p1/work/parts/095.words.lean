set_option maxRecDepth 20000 in
theorem m09_0 : (Cond.initialized "java/lang/Throwable" : Cond) ∈ q_big := q_m1 (List.mem_of_getElem? (i := 17) rfl) rfl
set_option maxRecDepth 20000 in
theorem m09_1 : (Cond.superclass "java/lang/Throwable" "java/lang/Object" : Cond) ∈ q_big := q_m4 (List.mem_of_getElem? (i := 158) rfl) rfl
set_option maxRecDepth 20000 in
theorem m09_2 : (Cond.instanceMethod ⟨"java/lang/Throwable", "fillInStackTrace", "()Ljava/lang/Throwable;"⟩ : Cond) ∈ q_big := q_m4 (List.mem_of_getElem? (i := 167) rfl) rfl
set_option maxRecDepth 20000 in
theorem m09_3 : (Cond.codeSync ⟨"java/lang/Throwable", "fillInStackTrace", "()Ljava/lang/Throwable;"⟩ prog_38_method_18_code 1 (Option.some (FieldType.object "java/lang/Throwable")) : Cond) ∈ q_big := q_m4 (List.mem_of_getElem? (i := 174) rfl) rfl
set_option maxRecDepth 20000 in
theorem m09_4 : (Cond.instanceMethod ⟨"java/lang/Throwable", "fillInStackTrace", "(I)Ljava/lang/Throwable;"⟩ : Cond) ∈ q_big := q_m4 (List.mem_of_getElem? (i := 177) rfl) rfl
set_option maxRecDepth 20000 in
theorem m09_5 : (Cond.native ⟨"java/lang/Throwable", "fillInStackTrace", "(I)Ljava/lang/Throwable;"⟩ : Cond) ∈ q_big := q_m4 (List.mem_of_getElem? (i := 179) rfl) rfl
set_option maxRecDepth 20000 in
theorem m09_6 : (Cond.instanceMethod ⟨"java/lang/Throwable", "<init>", "()V"⟩ : Cond) ∈ q_big := q_m4 (List.mem_of_getElem? (i := 159) rfl) rfl
set_option maxRecDepth 20000 in
theorem m09_7 : (Cond.code ⟨"java/lang/Throwable", "<init>", "()V"⟩ prog_38_method_1_code 1 none : Cond) ∈ q_big := q_m4 (List.mem_of_getElem? (i := 160) rfl) rfl
set_option maxRecDepth 20000 in
theorem m09_8 : (Cond.instanceMethod ⟨"java/lang/Object", "<init>", "()V"⟩ : Cond) ∈ q_big := q_m1 (List.mem_of_getElem? (i := 47) rfl) rfl
set_option maxRecDepth 20000 in
theorem m09_9 : (Cond.code ⟨"java/lang/Object", "<init>", "()V"⟩ object_method_1_code 1 none : Cond) ∈ q_big := q_m1 (List.mem_of_getElem? (i := 48) rfl) rfl
set_option maxRecDepth 20000 in
theorem m09_10 : (Cond.methodLink "java/lang/Throwable" 1 ⟨"java/lang/Object", "<init>", "()V"⟩ : Cond) ∈ q_big := q_m4 (List.mem_of_getElem? (i := 161) rfl) rfl
set_option maxRecDepth 20000 in
theorem m09_11 : (Cond.methodLink "java/lang/Throwable" 27 ⟨"java/lang/Throwable", "fillInStackTrace", "()Ljava/lang/Throwable;"⟩ : Cond) ∈ q_big := q_m4 (List.mem_of_getElem? (i := 166) rfl) rfl
set_option maxRecDepth 20000 in
theorem m09_12 : (Cond.methodLink "java/lang/Throwable" 202 ⟨"java/lang/Throwable", "fillInStackTrace", "(I)Ljava/lang/Throwable;"⟩ : Cond) ∈ q_big := q_m4 (List.mem_of_getElem? (i := 175) rfl) rfl
set_option maxRecDepth 20000 in
theorem m09_13 : (Cond.fieldLink "java/lang/Throwable" 7 "java/lang/Throwable" "cause" "Ljava/lang/Throwable;" : Cond) ∈ q_big := q_m4 (List.mem_of_getElem? (i := 192) rfl) rfl
set_option maxRecDepth 20000 in
theorem m09_14 : (Cond.lays "java/lang/Throwable" "java/lang/Throwable" "cause" "Ljava/lang/Throwable;" : Cond) ∈ q_big := q_m4 (List.mem_of_getElem? (i := 148) rfl) rfl
set_option maxRecDepth 20000 in
theorem m09_15 : (Cond.fieldLink "java/lang/Throwable" 17 "java/lang/Throwable" "stackTrace" "[Ljava/lang/StackTraceElement;" : Cond) ∈ q_big := q_m4 (List.mem_of_getElem? (i := 193) rfl) rfl
set_option maxRecDepth 20000 in
theorem m09_16 : (Cond.lays "java/lang/Throwable" "java/lang/Throwable" "stackTrace" "[Ljava/lang/StackTraceElement;" : Cond) ∈ q_big := q_m4 (List.mem_of_getElem? (i := 150) rfl) rfl
set_option maxRecDepth 20000 in
theorem m09_17 : (Cond.fieldLink "java/lang/Throwable" 24 "java/lang/Throwable" "suppressedExceptions" "Ljava/util/List;" : Cond) ∈ q_big := q_m4 (List.mem_of_getElem? (i := 194) rfl) rfl
set_option maxRecDepth 20000 in
theorem m09_18 : (Cond.lays "java/lang/Throwable" "java/lang/Throwable" "suppressedExceptions" "Ljava/util/List;" : Cond) ∈ q_big := q_m4 (List.mem_of_getElem? (i := 152) rfl) rfl
set_option maxRecDepth 20000 in
theorem m09_19 : (Cond.fieldLink "java/lang/Throwable" 13 "java/lang/Throwable" "UNASSIGNED_STACK" "[Ljava/lang/StackTraceElement;" : Cond) ∈ q_big := q_m4 (List.mem_of_getElem? (i := 162) rfl) rfl
set_option maxRecDepth 20000 in
theorem m09_20 : (Cond.fieldLink "java/lang/Throwable" 20 "java/lang/Throwable" "SUPPRESSED_SENTINEL" "Ljava/util/List;" : Cond) ∈ q_big := q_m4 (List.mem_of_getElem? (i := 164) rfl) rfl
set_option maxRecDepth 20000 in
theorem m09_21 : (Cond.lays "java/lang/Throwable" "java/lang/Throwable" "detailMessage" "Ljava/lang/String;" : Cond) ∈ q_big := q_m4 (List.mem_of_getElem? (i := 154) rfl) rfl
set_option maxRecDepth 20000 in
theorem m09_22 : (Cond.instanceMethod ⟨"java/lang/IndexOutOfBoundsException", "<init>", "()V"⟩ : Cond) ∈ q_big := q_m4 (List.mem_of_getElem? (i := 181) rfl) rfl
set_option maxRecDepth 20000 in
theorem m09_23 : (Cond.code ⟨"java/lang/IndexOutOfBoundsException", "<init>", "()V"⟩ prog_28_method_1_code 1 none : Cond) ∈ q_big := q_m4 (List.mem_of_getElem? (i := 182) rfl) rfl
set_option maxRecDepth 20000 in
theorem m09_24 : (Cond.methodLink "java/lang/IndexOutOfBoundsException" 1 ⟨"java/lang/RuntimeException", "<init>", "()V"⟩ : Cond) ∈ q_big := q_m4 (List.mem_of_getElem? (i := 183) rfl) rfl
set_option maxRecDepth 20000 in
theorem m09_25 : (Cond.instanceMethod ⟨"java/lang/RuntimeException", "<init>", "()V"⟩ : Cond) ∈ q_big := q_m4 (List.mem_of_getElem? (i := 184) rfl) rfl
set_option maxRecDepth 20000 in
theorem m09_26 : (Cond.declares ⟨"java/lang/RuntimeException", "<init>", "()V"⟩ : Cond) ∈ q_nest := q_n4 (List.mem_of_getElem? (i := 139) rfl) rfl
set_option maxRecDepth 20000 in
theorem m09_27 : (Cond.code ⟨"java/lang/RuntimeException", "<init>", "()V"⟩ prog_32_method_1_code 1 none : Cond) ∈ q_big := q_m4 (List.mem_of_getElem? (i := 185) rfl) rfl
set_option maxRecDepth 20000 in
theorem m09_28 : (Cond.methodLink "java/lang/RuntimeException" 1 ⟨"java/lang/Exception", "<init>", "()V"⟩ : Cond) ∈ q_big := q_m4 (List.mem_of_getElem? (i := 186) rfl) rfl
set_option maxRecDepth 20000 in
theorem m09_29 : (Cond.instanceMethod ⟨"java/lang/Exception", "<init>", "()V"⟩ : Cond) ∈ q_big := q_m4 (List.mem_of_getElem? (i := 187) rfl) rfl
set_option maxRecDepth 20000 in
theorem m09_30 : (Cond.declares ⟨"java/lang/Exception", "<init>", "()V"⟩ : Cond) ∈ q_nest := q_n4 (List.mem_of_getElem? (i := 141) rfl) rfl
set_option maxRecDepth 20000 in
theorem m09_31 : (Cond.code ⟨"java/lang/Exception", "<init>", "()V"⟩ prog_25_method_1_code 1 none : Cond) ∈ q_big := q_m4 (List.mem_of_getElem? (i := 188) rfl) rfl
set_option maxRecDepth 20000 in
theorem m09_32 : (Cond.methodLink "java/lang/Exception" 1 ⟨"java/lang/Throwable", "<init>", "()V"⟩ : Cond) ∈ q_big := q_m4 (List.mem_of_getElem? (i := 189) rfl) rfl
set_option maxRecDepth 20000 in
theorem m09_33 : (Cond.declares ⟨"java/lang/Throwable", "<init>", "()V"⟩ : Cond) ∈ q_nest := q_n4 (List.mem_of_getElem? (i := 143) rfl) rfl
set_option maxRecDepth 20000 in
theorem m09_34 : (Cond.instanceMethod ⟨"java/lang/IllegalArgumentException", "<init>", "()V"⟩ : Cond) ∈ q_big := q_m4 (List.mem_of_getElem? (i := 225) rfl) rfl
set_option maxRecDepth 20000 in
theorem m09_35 : (Cond.code ⟨"java/lang/IllegalArgumentException", "<init>", "()V"⟩ prog_26_method_1_code 1 none : Cond) ∈ q_big := q_m4 (List.mem_of_getElem? (i := 226) rfl) rfl
set_option maxRecDepth 20000 in
theorem m09_36 : (Cond.methodLink "java/lang/IllegalArgumentException" 1 ⟨"java/lang/RuntimeException", "<init>", "()V"⟩ : Cond) ∈ q_big := q_m4 (List.mem_of_getElem? (i := 227) rfl) rfl
set_option maxRecDepth 20000 in
theorem m09_37 : (Cond.instanceMethod ⟨"java/lang/IllegalStateException", "<init>", "()V"⟩ : Cond) ∈ q_big := q_m7 (List.mem_of_getElem? (i := 52) rfl) rfl
set_option maxRecDepth 20000 in
theorem m09_38 : (Cond.code ⟨"java/lang/IllegalStateException", "<init>", "()V"⟩ prog_27_method_1_code 1 none : Cond) ∈ q_big := q_m7 (List.mem_of_getElem? (i := 53) rfl) rfl
set_option maxRecDepth 20000 in
theorem m09_39 : (Cond.methodLink "java/lang/IllegalStateException" 1 ⟨"java/lang/RuntimeException", "<init>", "()V"⟩ : Cond) ∈ q_big := q_m7 (List.mem_of_getElem? (i := 54) rfl) rfl
set_option maxRecDepth 20000 in
theorem m09_40 : (Cond.instanceMethod ⟨"java/util/NoSuchElementException", "<init>", "()V"⟩ : Cond) ∈ q_big := q_m11 (List.mem_of_getElem? (i := 66) rfl) rfl
set_option maxRecDepth 20000 in
theorem m09_41 : (Cond.code ⟨"java/util/NoSuchElementException", "<init>", "()V"⟩ prog_40_method_1_code 1 none : Cond) ∈ q_big := q_m11 (List.mem_of_getElem? (i := 67) rfl) rfl
set_option maxRecDepth 20000 in
theorem m09_42 : (Cond.methodLink "java/util/NoSuchElementException" 1 ⟨"java/lang/RuntimeException", "<init>", "()V"⟩ : Cond) ∈ q_big := q_m11 (List.mem_of_getElem? (i := 68) rfl) rfl
set_option maxRecDepth 20000 in
theorem m09_43 : (Cond.instanceMethod ⟨"SignalTheatreModel$Wrong", "<init>", "()V"⟩ : Cond) ∈ q_big := q_m11 (List.mem_of_getElem? (i := 204) rfl) rfl
set_option maxRecDepth 20000 in
theorem m09_44 : (Cond.code ⟨"SignalTheatreModel$Wrong", "<init>", "()V"⟩ prog_20_method_1_code 1 none : Cond) ∈ q_big := q_m11 (List.mem_of_getElem? (i := 205) rfl) rfl
set_option maxRecDepth 20000 in
theorem m09_45 : (Cond.methodLink "SignalTheatreModel$Wrong" 1 ⟨"java/lang/RuntimeException", "<init>", "()V"⟩ : Cond) ∈ q_big := q_m11 (List.mem_of_getElem? (i := 206) rfl) rfl
set_option maxRecDepth 20000 in
theorem m09_46 : (Cond.instantiable "java/lang/IndexOutOfBoundsException" 6 : Cond) ∈ q_big := q_m4 (List.mem_of_getElem? (i := 137) rfl) rfl
set_option maxRecDepth 20000 in
theorem m09_47 : (Cond.castable "java/lang/IndexOutOfBoundsException" "java/lang/IndexOutOfBoundsException" : Cond) ∈ q_nest := q_n4 (List.mem_of_getElem? (i := 138) rfl) rfl
set_option maxRecDepth 20000 in
theorem m09_48 : (Cond.selects "java/lang/IndexOutOfBoundsException" ⟨"java/lang/Throwable", "fillInStackTrace", "(I)Ljava/lang/Throwable;"⟩ ⟨"java/lang/Throwable", "fillInStackTrace", "(I)Ljava/lang/Throwable;"⟩ : Cond) ∈ q_big := q_m4 (List.mem_of_getElem? (i := 145) rfl) rfl
set_option maxRecDepth 20000 in
theorem m09_49 : (Cond.selects "java/lang/IndexOutOfBoundsException" ⟨"java/lang/Throwable", "fillInStackTrace", "()Ljava/lang/Throwable;"⟩ ⟨"java/lang/Throwable", "fillInStackTrace", "()Ljava/lang/Throwable;"⟩ : Cond) ∈ q_big := q_m4 (List.mem_of_getElem? (i := 146) rfl) rfl
set_option maxRecDepth 20000 in
theorem m09_50 : (Cond.lays "java/lang/IndexOutOfBoundsException" "java/lang/Throwable" "cause" "Ljava/lang/Throwable;" : Cond) ∈ q_big := q_m4 (List.mem_of_getElem? (i := 147) rfl) rfl
set_option maxRecDepth 20000 in
theorem m09_51 : (Cond.lays "java/lang/IndexOutOfBoundsException" "java/lang/Throwable" "stackTrace" "[Ljava/lang/StackTraceElement;" : Cond) ∈ q_big := q_m4 (List.mem_of_getElem? (i := 149) rfl) rfl
set_option maxRecDepth 20000 in
theorem m09_52 : (Cond.lays "java/lang/IndexOutOfBoundsException" "java/lang/Throwable" "suppressedExceptions" "Ljava/util/List;" : Cond) ∈ q_big := q_m4 (List.mem_of_getElem? (i := 151) rfl) rfl
set_option maxRecDepth 20000 in
theorem m09_53 : (Cond.lays "java/lang/IndexOutOfBoundsException" "java/lang/Throwable" "detailMessage" "Ljava/lang/String;" : Cond) ∈ q_big := q_m4 (List.mem_of_getElem? (i := 153) rfl) rfl
set_option maxRecDepth 20000 in
theorem m09_54 : (Cond.fieldLink "java/lang/Throwable" 198 "java/lang/Throwable" "backtrace" "Ljava/lang/Object;" : Cond) ∈ q_big := q_m4 (List.mem_of_getElem? (i := 157) rfl) rfl
set_option maxRecDepth 20000 in
theorem m09_55 : (Cond.lays "java/lang/Throwable" "java/lang/Throwable" "backtrace" "Ljava/lang/Object;" : Cond) ∈ q_big := q_m4 (List.mem_of_getElem? (i := 156) rfl) rfl
set_option maxRecDepth 20000 in
theorem m09_56 : (Cond.lays "java/lang/IndexOutOfBoundsException" "java/lang/Throwable" "backtrace" "Ljava/lang/Object;" : Cond) ∈ q_big := q_m4 (List.mem_of_getElem? (i := 155) rfl) rfl
set_option maxRecDepth 20000 in
theorem m09_57 : (Cond.instantiable "java/lang/IllegalArgumentException" 6 : Cond) ∈ q_big := q_m4 (List.mem_of_getElem? (i := 216) rfl) rfl
set_option maxRecDepth 20000 in
theorem m09_58 : (Cond.castable "java/lang/IllegalArgumentException" "java/lang/IllegalArgumentException" : Cond) ∈ q_nest := q_n4 (List.mem_of_getElem? (i := 217) rfl) rfl
set_option maxRecDepth 20000 in
theorem m09_59 : (Cond.selects "java/lang/IllegalArgumentException" ⟨"java/lang/Throwable", "fillInStackTrace", "(I)Ljava/lang/Throwable;"⟩ ⟨"java/lang/Throwable", "fillInStackTrace", "(I)Ljava/lang/Throwable;"⟩ : Cond) ∈ q_big := q_m4 (List.mem_of_getElem? (i := 218) rfl) rfl
set_option maxRecDepth 20000 in
theorem m09_60 : (Cond.selects "java/lang/IllegalArgumentException" ⟨"java/lang/Throwable", "fillInStackTrace", "()Ljava/lang/Throwable;"⟩ ⟨"java/lang/Throwable", "fillInStackTrace", "()Ljava/lang/Throwable;"⟩ : Cond) ∈ q_big := q_m4 (List.mem_of_getElem? (i := 171) rfl) rfl
set_option maxRecDepth 20000 in
theorem m09_61 : (Cond.lays "java/lang/IllegalArgumentException" "java/lang/Throwable" "cause" "Ljava/lang/Throwable;" : Cond) ∈ q_big := q_m4 (List.mem_of_getElem? (i := 219) rfl) rfl
set_option maxRecDepth 20000 in
theorem m09_62 : (Cond.lays "java/lang/IllegalArgumentException" "java/lang/Throwable" "stackTrace" "[Ljava/lang/StackTraceElement;" : Cond) ∈ q_big := q_m4 (List.mem_of_getElem? (i := 220) rfl) rfl
set_option maxRecDepth 20000 in
theorem m09_63 : (Cond.lays "java/lang/IllegalArgumentException" "java/lang/Throwable" "suppressedExceptions" "Ljava/util/List;" : Cond) ∈ q_big := q_m4 (List.mem_of_getElem? (i := 221) rfl) rfl
set_option maxRecDepth 20000 in
theorem m09_64 : (Cond.lays "java/lang/IllegalArgumentException" "java/lang/Throwable" "detailMessage" "Ljava/lang/String;" : Cond) ∈ q_big := q_m4 (List.mem_of_getElem? (i := 222) rfl) rfl
set_option maxRecDepth 20000 in
theorem m09_65 : (Cond.lays "java/lang/IllegalArgumentException" "java/lang/Throwable" "backtrace" "Ljava/lang/Object;" : Cond) ∈ q_big := q_m4 (List.mem_of_getElem? (i := 223) rfl) rfl
set_option maxRecDepth 20000 in
theorem m09_66 : (Cond.instantiable "java/lang/IllegalStateException" 6 : Cond) ∈ q_big := q_m7 (List.mem_of_getElem? (i := 43) rfl) rfl
set_option maxRecDepth 20000 in
theorem m09_67 : (Cond.castable "java/lang/IllegalStateException" "java/lang/IllegalStateException" : Cond) ∈ q_nest := q_n7 (List.mem_of_getElem? (i := 44) rfl) rfl
set_option maxRecDepth 20000 in
theorem m09_68 : (Cond.selects "java/lang/IllegalStateException" ⟨"java/lang/Throwable", "fillInStackTrace", "(I)Ljava/lang/Throwable;"⟩ ⟨"java/lang/Throwable", "fillInStackTrace", "(I)Ljava/lang/Throwable;"⟩ : Cond) ∈ q_big := q_m7 (List.mem_of_getElem? (i := 45) rfl) rfl
set_option maxRecDepth 20000 in
theorem m09_69 : (Cond.selects "java/lang/IllegalStateException" ⟨"java/lang/Throwable", "fillInStackTrace", "()Ljava/lang/Throwable;"⟩ ⟨"java/lang/Throwable", "fillInStackTrace", "()Ljava/lang/Throwable;"⟩ : Cond) ∈ q_big := q_m4 (List.mem_of_getElem? (i := 172) rfl) rfl
set_option maxRecDepth 20000 in
theorem m09_70 : (Cond.lays "java/lang/IllegalStateException" "java/lang/Throwable" "cause" "Ljava/lang/Throwable;" : Cond) ∈ q_big := q_m7 (List.mem_of_getElem? (i := 46) rfl) rfl
set_option maxRecDepth 20000 in
theorem m09_71 : (Cond.lays "java/lang/IllegalStateException" "java/lang/Throwable" "stackTrace" "[Ljava/lang/StackTraceElement;" : Cond) ∈ q_big := q_m7 (List.mem_of_getElem? (i := 47) rfl) rfl
set_option maxRecDepth 20000 in
theorem m09_72 : (Cond.lays "java/lang/IllegalStateException" "java/lang/Throwable" "suppressedExceptions" "Ljava/util/List;" : Cond) ∈ q_big := q_m7 (List.mem_of_getElem? (i := 48) rfl) rfl
set_option maxRecDepth 20000 in
theorem m09_73 : (Cond.lays "java/lang/IllegalStateException" "java/lang/Throwable" "detailMessage" "Ljava/lang/String;" : Cond) ∈ q_big := q_m7 (List.mem_of_getElem? (i := 49) rfl) rfl
set_option maxRecDepth 20000 in
theorem m09_74 : (Cond.lays "java/lang/IllegalStateException" "java/lang/Throwable" "backtrace" "Ljava/lang/Object;" : Cond) ∈ q_big := q_m7 (List.mem_of_getElem? (i := 50) rfl) rfl
set_option maxRecDepth 20000 in
theorem m09_75 : (Cond.instantiable "java/util/NoSuchElementException" 6 : Cond) ∈ q_big := q_m11 (List.mem_of_getElem? (i := 57) rfl) rfl
set_option maxRecDepth 20000 in
theorem m09_76 : (Cond.castable "java/util/NoSuchElementException" "java/util/NoSuchElementException" : Cond) ∈ q_nest := q_n11 (List.mem_of_getElem? (i := 58) rfl) rfl
set_option maxRecDepth 20000 in
theorem m09_77 : (Cond.selects "java/util/NoSuchElementException" ⟨"java/lang/Throwable", "fillInStackTrace", "(I)Ljava/lang/Throwable;"⟩ ⟨"java/lang/Throwable", "fillInStackTrace", "(I)Ljava/lang/Throwable;"⟩ : Cond) ∈ q_big := q_m11 (List.mem_of_getElem? (i := 59) rfl) rfl
set_option maxRecDepth 20000 in
theorem m09_78 : (Cond.selects "java/util/NoSuchElementException" ⟨"java/lang/Throwable", "fillInStackTrace", "()Ljava/lang/Throwable;"⟩ ⟨"java/lang/Throwable", "fillInStackTrace", "()Ljava/lang/Throwable;"⟩ : Cond) ∈ q_big := q_m4 (List.mem_of_getElem? (i := 173) rfl) rfl
set_option maxRecDepth 20000 in
theorem m09_79 : (Cond.lays "java/util/NoSuchElementException" "java/lang/Throwable" "cause" "Ljava/lang/Throwable;" : Cond) ∈ q_big := q_m11 (List.mem_of_getElem? (i := 60) rfl) rfl
set_option maxRecDepth 20000 in
theorem m09_80 : (Cond.lays "java/util/NoSuchElementException" "java/lang/Throwable" "stackTrace" "[Ljava/lang/StackTraceElement;" : Cond) ∈ q_big := q_m11 (List.mem_of_getElem? (i := 61) rfl) rfl
set_option maxRecDepth 20000 in
theorem m09_81 : (Cond.lays "java/util/NoSuchElementException" "java/lang/Throwable" "suppressedExceptions" "Ljava/util/List;" : Cond) ∈ q_big := q_m11 (List.mem_of_getElem? (i := 62) rfl) rfl
set_option maxRecDepth 20000 in
theorem m09_82 : (Cond.lays "java/util/NoSuchElementException" "java/lang/Throwable" "detailMessage" "Ljava/lang/String;" : Cond) ∈ q_big := q_m11 (List.mem_of_getElem? (i := 63) rfl) rfl
set_option maxRecDepth 20000 in
theorem m09_83 : (Cond.lays "java/util/NoSuchElementException" "java/lang/Throwable" "backtrace" "Ljava/lang/Object;" : Cond) ∈ q_big := q_m11 (List.mem_of_getElem? (i := 64) rfl) rfl
set_option maxRecDepth 20000 in
theorem m09_84 : (Cond.selects "SignalTheatreModel$Wrong" ⟨"java/lang/Throwable", "fillInStackTrace", "(I)Ljava/lang/Throwable;"⟩ ⟨"java/lang/Throwable", "fillInStackTrace", "(I)Ljava/lang/Throwable;"⟩ : Cond) ∈ q_big := q_m11 (List.mem_of_getElem? (i := 197) rfl) rfl
set_option maxRecDepth 20000 in
theorem m09_85 : (Cond.selects "SignalTheatreModel$Wrong" ⟨"java/lang/Throwable", "fillInStackTrace", "()Ljava/lang/Throwable;"⟩ ⟨"java/lang/Throwable", "fillInStackTrace", "()Ljava/lang/Throwable;"⟩ : Cond) ∈ q_big := q_m4 (List.mem_of_getElem? (i := 169) rfl) rfl
set_option maxRecDepth 20000 in
theorem m09_86 : (Cond.lays "SignalTheatreModel$Wrong" "java/lang/Throwable" "cause" "Ljava/lang/Throwable;" : Cond) ∈ q_big := q_m11 (List.mem_of_getElem? (i := 198) rfl) rfl
set_option maxRecDepth 20000 in
theorem m09_87 : (Cond.lays "SignalTheatreModel$Wrong" "java/lang/Throwable" "stackTrace" "[Ljava/lang/StackTraceElement;" : Cond) ∈ q_big := q_m11 (List.mem_of_getElem? (i := 199) rfl) rfl
set_option maxRecDepth 20000 in
theorem m09_88 : (Cond.lays "SignalTheatreModel$Wrong" "java/lang/Throwable" "suppressedExceptions" "Ljava/util/List;" : Cond) ∈ q_big := q_m11 (List.mem_of_getElem? (i := 200) rfl) rfl
set_option maxRecDepth 20000 in
theorem m09_89 : (Cond.lays "SignalTheatreModel$Wrong" "java/lang/Throwable" "backtrace" "Ljava/lang/Object;" : Cond) ∈ q_big := q_m11 (List.mem_of_getElem? (i := 202) rfl) rfl
set_option maxRecDepth 20000 in
theorem tw_T : ∀ w ∈ Bundle.throwableAtoms, q_tw w := List.forall_mem_cons.mpr ⟨Or.inl m09_0, List.forall_mem_cons.mpr ⟨Or.inl m09_1, List.forall_mem_cons.mpr ⟨Or.inl m09_2, List.forall_mem_cons.mpr ⟨Or.inl m09_3, List.forall_mem_cons.mpr ⟨Or.inl m09_4, List.forall_mem_cons.mpr ⟨Or.inl m09_5, List.forall_mem_cons.mpr ⟨Or.inl m09_6, List.forall_mem_cons.mpr ⟨Or.inl m09_7, List.forall_mem_cons.mpr ⟨Or.inl m09_8, List.forall_mem_cons.mpr ⟨Or.inl m09_9, List.forall_mem_cons.mpr ⟨Or.inl m09_10, List.forall_mem_cons.mpr ⟨Or.inl m09_11, List.forall_mem_cons.mpr ⟨Or.inl m09_12, List.forall_mem_cons.mpr ⟨Or.inl m09_13, List.forall_mem_cons.mpr ⟨Or.inl m09_14, List.forall_mem_cons.mpr ⟨Or.inl m09_15, List.forall_mem_cons.mpr ⟨Or.inl m09_16, List.forall_mem_cons.mpr ⟨Or.inl m09_17, List.forall_mem_cons.mpr ⟨Or.inl m09_18, List.forall_mem_cons.mpr ⟨Or.inl m09_19, List.forall_mem_cons.mpr ⟨Or.inr (Or.inr (Or.inr (Or.inr (Or.inl rfl)))), List.forall_mem_cons.mpr ⟨Or.inl m09_20, List.forall_mem_cons.mpr ⟨Or.inr (Or.inr (Or.inr (Or.inr (Or.inr rfl)))), List.forall_mem_cons.mpr ⟨Or.inl m09_21, fun _ h => nomatch h⟩⟩⟩⟩⟩⟩⟩⟩⟩⟩⟩⟩⟩⟩⟩⟩⟩⟩⟩⟩⟩⟩⟩⟩
set_option maxRecDepth 20000 in
theorem tw_ch_Ioob : ∀ w ∈ Bundle.chain0Atoms "java/lang/IndexOutOfBoundsException" ["java/lang/RuntimeException", "java/lang/Exception"], q_tw w := List.forall_mem_cons.mpr ⟨Or.inl m09_22, List.forall_mem_cons.mpr ⟨Or.inl m09_23, List.forall_mem_cons.mpr ⟨Or.inl m09_24, List.forall_mem_cons.mpr ⟨Or.inl m09_25, List.forall_mem_cons.mpr ⟨Or.inr (Or.inl m09_26), List.forall_mem_cons.mpr ⟨Or.inl m09_25, List.forall_mem_cons.mpr ⟨Or.inl m09_27, List.forall_mem_cons.mpr ⟨Or.inl m09_28, List.forall_mem_cons.mpr ⟨Or.inl m09_29, List.forall_mem_cons.mpr ⟨Or.inr (Or.inl m09_30), List.forall_mem_cons.mpr ⟨Or.inl m09_29, List.forall_mem_cons.mpr ⟨Or.inl m09_31, List.forall_mem_cons.mpr ⟨Or.inl m09_32, List.forall_mem_cons.mpr ⟨Or.inl m09_6, List.forall_mem_cons.mpr ⟨Or.inr (Or.inl m09_33), fun _ h => nomatch h⟩⟩⟩⟩⟩⟩⟩⟩⟩⟩⟩⟩⟩⟩⟩
theorem fit_Ioob : Bundle.fit "java/lang/IndexOutOfBoundsException" = true := by decide +kernel
set_option maxRecDepth 20000 in
theorem tw_ch_Iae : ∀ w ∈ Bundle.chain0Atoms "java/lang/IllegalArgumentException" ["java/lang/RuntimeException", "java/lang/Exception"], q_tw w := List.forall_mem_cons.mpr ⟨Or.inl m09_34, List.forall_mem_cons.mpr ⟨Or.inl m09_35, List.forall_mem_cons.mpr ⟨Or.inl m09_36, List.forall_mem_cons.mpr ⟨Or.inl m09_25, List.forall_mem_cons.mpr ⟨Or.inr (Or.inl m09_26), List.forall_mem_cons.mpr ⟨Or.inl m09_25, List.forall_mem_cons.mpr ⟨Or.inl m09_27, List.forall_mem_cons.mpr ⟨Or.inl m09_28, List.forall_mem_cons.mpr ⟨Or.inl m09_29, List.forall_mem_cons.mpr ⟨Or.inr (Or.inl m09_30), List.forall_mem_cons.mpr ⟨Or.inl m09_29, List.forall_mem_cons.mpr ⟨Or.inl m09_31, List.forall_mem_cons.mpr ⟨Or.inl m09_32, List.forall_mem_cons.mpr ⟨Or.inl m09_6, List.forall_mem_cons.mpr ⟨Or.inr (Or.inl m09_33), fun _ h => nomatch h⟩⟩⟩⟩⟩⟩⟩⟩⟩⟩⟩⟩⟩⟩⟩
theorem fit_Iae : Bundle.fit "java/lang/IllegalArgumentException" = true := by decide +kernel
set_option maxRecDepth 20000 in
theorem tw_ch_Ise : ∀ w ∈ Bundle.chain0Atoms "java/lang/IllegalStateException" ["java/lang/RuntimeException", "java/lang/Exception"], q_tw w := List.forall_mem_cons.mpr ⟨Or.inl m09_37, List.forall_mem_cons.mpr ⟨Or.inl m09_38, List.forall_mem_cons.mpr ⟨Or.inl m09_39, List.forall_mem_cons.mpr ⟨Or.inl m09_25, List.forall_mem_cons.mpr ⟨Or.inr (Or.inl m09_26), List.forall_mem_cons.mpr ⟨Or.inl m09_25, List.forall_mem_cons.mpr ⟨Or.inl m09_27, List.forall_mem_cons.mpr ⟨Or.inl m09_28, List.forall_mem_cons.mpr ⟨Or.inl m09_29, List.forall_mem_cons.mpr ⟨Or.inr (Or.inl m09_30), List.forall_mem_cons.mpr ⟨Or.inl m09_29, List.forall_mem_cons.mpr ⟨Or.inl m09_31, List.forall_mem_cons.mpr ⟨Or.inl m09_32, List.forall_mem_cons.mpr ⟨Or.inl m09_6, List.forall_mem_cons.mpr ⟨Or.inr (Or.inl m09_33), fun _ h => nomatch h⟩⟩⟩⟩⟩⟩⟩⟩⟩⟩⟩⟩⟩⟩⟩
theorem fit_Ise : Bundle.fit "java/lang/IllegalStateException" = true := by decide +kernel
set_option maxRecDepth 20000 in
theorem tw_ch_Nse : ∀ w ∈ Bundle.chain0Atoms "java/util/NoSuchElementException" ["java/lang/RuntimeException", "java/lang/Exception"], q_tw w := List.forall_mem_cons.mpr ⟨Or.inl m09_40, List.forall_mem_cons.mpr ⟨Or.inl m09_41, List.forall_mem_cons.mpr ⟨Or.inl m09_42, List.forall_mem_cons.mpr ⟨Or.inl m09_25, List.forall_mem_cons.mpr ⟨Or.inr (Or.inl m09_26), List.forall_mem_cons.mpr ⟨Or.inl m09_25, List.forall_mem_cons.mpr ⟨Or.inl m09_27, List.forall_mem_cons.mpr ⟨Or.inl m09_28, List.forall_mem_cons.mpr ⟨Or.inl m09_29, List.forall_mem_cons.mpr ⟨Or.inr (Or.inl m09_30), List.forall_mem_cons.mpr ⟨Or.inl m09_29, List.forall_mem_cons.mpr ⟨Or.inl m09_31, List.forall_mem_cons.mpr ⟨Or.inl m09_32, List.forall_mem_cons.mpr ⟨Or.inl m09_6, List.forall_mem_cons.mpr ⟨Or.inr (Or.inl m09_33), fun _ h => nomatch h⟩⟩⟩⟩⟩⟩⟩⟩⟩⟩⟩⟩⟩⟩⟩
theorem fit_Nse : Bundle.fit "java/util/NoSuchElementException" = true := by decide +kernel
set_option maxRecDepth 20000 in
theorem tw_ch_Wro : ∀ w ∈ Bundle.chain0Atoms "SignalTheatreModel$Wrong" ["java/lang/RuntimeException", "java/lang/Exception"], q_tw w := List.forall_mem_cons.mpr ⟨Or.inl m09_43, List.forall_mem_cons.mpr ⟨Or.inl m09_44, List.forall_mem_cons.mpr ⟨Or.inl m09_45, List.forall_mem_cons.mpr ⟨Or.inl m09_25, List.forall_mem_cons.mpr ⟨Or.inr (Or.inl m09_26), List.forall_mem_cons.mpr ⟨Or.inl m09_25, List.forall_mem_cons.mpr ⟨Or.inl m09_27, List.forall_mem_cons.mpr ⟨Or.inl m09_28, List.forall_mem_cons.mpr ⟨Or.inl m09_29, List.forall_mem_cons.mpr ⟨Or.inr (Or.inl m09_30), List.forall_mem_cons.mpr ⟨Or.inl m09_29, List.forall_mem_cons.mpr ⟨Or.inl m09_31, List.forall_mem_cons.mpr ⟨Or.inl m09_32, List.forall_mem_cons.mpr ⟨Or.inl m09_6, List.forall_mem_cons.mpr ⟨Or.inr (Or.inl m09_33), fun _ h => nomatch h⟩⟩⟩⟩⟩⟩⟩⟩⟩⟩⟩⟩⟩⟩⟩
theorem fit_Wro : Bundle.fit "SignalTheatreModel$Wrong" = true := by decide +kernel
theorem fit_names : ∀ n ∈ ["java/lang/RuntimeException", "java/lang/Exception"], Bundle.fit n = true := by decide +kernel
set_option maxRecDepth 20000 in
/-- the words of a throw new Ioob(), but that of the call of its constructor -/
theorem tw_Ioob {own : String} {ic : Nat} (h : Cond.methodLink own ic (Bundle.init0 "java/lang/IndexOutOfBoundsException") ∈ q_big) : ∀ w ∈ Bundle.ownAtoms0 own ic "java/lang/IndexOutOfBoundsException" ["java/lang/RuntimeException", "java/lang/Exception"], q_tw w :=
  List.forall_mem_append.mpr ⟨List.forall_mem_append.mpr ⟨tw_T, tw_ch_Ioob⟩, List.forall_mem_cons.mpr ⟨Or.inl h, List.forall_mem_cons.mpr ⟨Or.inl m09_46, List.forall_mem_cons.mpr ⟨Or.inr (Or.inl m09_47), List.forall_mem_cons.mpr ⟨Or.inl m09_48, List.forall_mem_cons.mpr ⟨Or.inl m09_49, List.forall_mem_cons.mpr ⟨Or.inl m09_50, List.forall_mem_cons.mpr ⟨Or.inl m09_51, List.forall_mem_cons.mpr ⟨Or.inl m09_52, List.forall_mem_cons.mpr ⟨Or.inl m09_53, List.forall_mem_cons.mpr ⟨Or.inr (Or.inr (Or.inl rfl)), List.forall_mem_cons.mpr ⟨Or.inr (Or.inr (Or.inr (Or.inl rfl))), List.forall_mem_cons.mpr ⟨Or.inl m09_54, List.forall_mem_cons.mpr ⟨Or.inl m09_55, List.forall_mem_cons.mpr ⟨Or.inl m09_56, fun _ h => nomatch h⟩⟩⟩⟩⟩⟩⟩⟩⟩⟩⟩⟩⟩⟩⟩
set_option maxRecDepth 20000 in
/-- the words of a throw new Iae(), but that of the call of its constructor -/
theorem tw_Iae {own : String} {ic : Nat} (h : Cond.methodLink own ic (Bundle.init0 "java/lang/IllegalArgumentException") ∈ q_big) : ∀ w ∈ Bundle.ownAtoms0 own ic "java/lang/IllegalArgumentException" ["java/lang/RuntimeException", "java/lang/Exception"], q_tw w :=
  List.forall_mem_append.mpr ⟨List.forall_mem_append.mpr ⟨tw_T, tw_ch_Iae⟩, List.forall_mem_cons.mpr ⟨Or.inl h, List.forall_mem_cons.mpr ⟨Or.inl m09_57, List.forall_mem_cons.mpr ⟨Or.inr (Or.inl m09_58), List.forall_mem_cons.mpr ⟨Or.inl m09_59, List.forall_mem_cons.mpr ⟨Or.inl m09_60, List.forall_mem_cons.mpr ⟨Or.inl m09_61, List.forall_mem_cons.mpr ⟨Or.inl m09_62, List.forall_mem_cons.mpr ⟨Or.inl m09_63, List.forall_mem_cons.mpr ⟨Or.inl m09_64, List.forall_mem_cons.mpr ⟨Or.inr (Or.inr (Or.inl rfl)), List.forall_mem_cons.mpr ⟨Or.inr (Or.inr (Or.inr (Or.inl rfl))), List.forall_mem_cons.mpr ⟨Or.inl m09_54, List.forall_mem_cons.mpr ⟨Or.inl m09_55, List.forall_mem_cons.mpr ⟨Or.inl m09_65, fun _ h => nomatch h⟩⟩⟩⟩⟩⟩⟩⟩⟩⟩⟩⟩⟩⟩⟩
set_option maxRecDepth 20000 in
/-- the words of a throw new Ise(), but that of the call of its constructor -/
theorem tw_Ise {own : String} {ic : Nat} (h : Cond.methodLink own ic (Bundle.init0 "java/lang/IllegalStateException") ∈ q_big) : ∀ w ∈ Bundle.ownAtoms0 own ic "java/lang/IllegalStateException" ["java/lang/RuntimeException", "java/lang/Exception"], q_tw w :=
  List.forall_mem_append.mpr ⟨List.forall_mem_append.mpr ⟨tw_T, tw_ch_Ise⟩, List.forall_mem_cons.mpr ⟨Or.inl h, List.forall_mem_cons.mpr ⟨Or.inl m09_66, List.forall_mem_cons.mpr ⟨Or.inr (Or.inl m09_67), List.forall_mem_cons.mpr ⟨Or.inl m09_68, List.forall_mem_cons.mpr ⟨Or.inl m09_69, List.forall_mem_cons.mpr ⟨Or.inl m09_70, List.forall_mem_cons.mpr ⟨Or.inl m09_71, List.forall_mem_cons.mpr ⟨Or.inl m09_72, List.forall_mem_cons.mpr ⟨Or.inl m09_73, List.forall_mem_cons.mpr ⟨Or.inr (Or.inr (Or.inl rfl)), List.forall_mem_cons.mpr ⟨Or.inr (Or.inr (Or.inr (Or.inl rfl))), List.forall_mem_cons.mpr ⟨Or.inl m09_54, List.forall_mem_cons.mpr ⟨Or.inl m09_55, List.forall_mem_cons.mpr ⟨Or.inl m09_74, fun _ h => nomatch h⟩⟩⟩⟩⟩⟩⟩⟩⟩⟩⟩⟩⟩⟩⟩
set_option maxRecDepth 20000 in
/-- the words of a throw new Nse(), but that of the call of its constructor -/
theorem tw_Nse {own : String} {ic : Nat} (h : Cond.methodLink own ic (Bundle.init0 "java/util/NoSuchElementException") ∈ q_big) : ∀ w ∈ Bundle.ownAtoms0 own ic "java/util/NoSuchElementException" ["java/lang/RuntimeException", "java/lang/Exception"], q_tw w :=
  List.forall_mem_append.mpr ⟨List.forall_mem_append.mpr ⟨tw_T, tw_ch_Nse⟩, List.forall_mem_cons.mpr ⟨Or.inl h, List.forall_mem_cons.mpr ⟨Or.inl m09_75, List.forall_mem_cons.mpr ⟨Or.inr (Or.inl m09_76), List.forall_mem_cons.mpr ⟨Or.inl m09_77, List.forall_mem_cons.mpr ⟨Or.inl m09_78, List.forall_mem_cons.mpr ⟨Or.inl m09_79, List.forall_mem_cons.mpr ⟨Or.inl m09_80, List.forall_mem_cons.mpr ⟨Or.inl m09_81, List.forall_mem_cons.mpr ⟨Or.inl m09_82, List.forall_mem_cons.mpr ⟨Or.inr (Or.inr (Or.inl rfl)), List.forall_mem_cons.mpr ⟨Or.inr (Or.inr (Or.inr (Or.inl rfl))), List.forall_mem_cons.mpr ⟨Or.inl m09_54, List.forall_mem_cons.mpr ⟨Or.inl m09_55, List.forall_mem_cons.mpr ⟨Or.inl m09_83, fun _ h => nomatch h⟩⟩⟩⟩⟩⟩⟩⟩⟩⟩⟩⟩⟩⟩⟩
set_option maxRecDepth 20000 in
theorem tw_Wro : ∀ w ∈ q_exw "SignalTheatreModel$Wrong" ["java/lang/RuntimeException", "java/lang/Exception"], q_tw w :=
  List.forall_mem_append.mpr ⟨List.forall_mem_append.mpr ⟨tw_T, tw_ch_Wro⟩, List.forall_mem_cons.mpr ⟨Or.inl m09_84, List.forall_mem_cons.mpr ⟨Or.inl m09_85, List.forall_mem_cons.mpr ⟨Or.inl m09_86, List.forall_mem_cons.mpr ⟨Or.inl m09_87, List.forall_mem_cons.mpr ⟨Or.inl m09_88, List.forall_mem_cons.mpr ⟨Or.inl m09_89, List.forall_mem_cons.mpr ⟨Or.inl m09_54, List.forall_mem_cons.mpr ⟨Or.inl m09_55, fun _ h => nomatch h⟩⟩⟩⟩⟩⟩⟩⟩⟩
