def lw_okq (q : MethodName × Nat) : Prop := (q.1.cls ≠ "java/lang/invoke/MethodHandle" ∧ q.1.cls ≠ "java/lang/invoke/VarHandle") ∧ Cond.instantiable q.1.cls q.2 ∈ tables_1 ∧ Cond.privateMethod q.1 ∈ tables_1 ∧ Cond.instanceMethod q.1 ∈ tables_1
theorem q_t1 {w : Cond} (h : w ∈ tables_1_1) : w ∈ tables_1 := List.mem_append_left _ h
theorem q_t2 {w : Cond} (h : w ∈ tables_1_2) : w ∈ tables_1 := List.mem_append_right _ (List.mem_append_left _ h)
theorem q_t3 {w : Cond} (h : w ∈ tables_1_3) : w ∈ tables_1 := List.mem_append_right _ (List.mem_append_right _ (List.mem_append_left _ h))
theorem q_t4 {w : Cond} (h : w ∈ tables_1_4) : w ∈ tables_1 := List.mem_append_right _ (List.mem_append_right _ (List.mem_append_right _ (List.mem_append_left _ h)))
theorem q_t5 {w : Cond} (h : w ∈ tables_1_5) : w ∈ tables_1 := List.mem_append_right _ (List.mem_append_right _ (List.mem_append_right _ (List.mem_append_right _ (List.mem_append_left _ h))))
theorem q_t6 {w : Cond} (h : w ∈ tables_1_6) : w ∈ tables_1 := List.mem_append_right _ (List.mem_append_right _ (List.mem_append_right _ (List.mem_append_right _ (List.mem_append_right _ (List.mem_append_left _ h)))))
theorem q_t7 {w : Cond} (h : w ∈ tables_1_7) : w ∈ tables_1 := List.mem_append_right _ (List.mem_append_right _ (List.mem_append_right _ (List.mem_append_right _ (List.mem_append_right _ (List.mem_append_right _ (List.mem_append_left _ h))))))
theorem q_t8 {w : Cond} (h : w ∈ tables_1_8) : w ∈ tables_1 := List.mem_append_right _ (List.mem_append_right _ (List.mem_append_right _ (List.mem_append_right _ (List.mem_append_right _ (List.mem_append_right _ (List.mem_append_right _ (List.mem_append_left _ h)))))))
theorem q_t9 {w : Cond} (h : w ∈ tables_1_9) : w ∈ tables_1 := List.mem_append_right _ (List.mem_append_right _ (List.mem_append_right _ (List.mem_append_right _ (List.mem_append_right _ (List.mem_append_right _ (List.mem_append_right _ (List.mem_append_right _ (List.mem_append_left _ h))))))))
theorem q_t10 {w : Cond} (h : w ∈ tables_1_10) : w ∈ tables_1 := List.mem_append_right _ (List.mem_append_right _ (List.mem_append_right _ (List.mem_append_right _ (List.mem_append_right _ (List.mem_append_right _ (List.mem_append_right _ (List.mem_append_right _ (List.mem_append_right _ (List.mem_append_left _ h)))))))))
theorem q_t11 {w : Cond} (h : w ∈ tables_1_11) : w ∈ tables_1 := List.mem_append_right _ (List.mem_append_right _ (List.mem_append_right _ (List.mem_append_right _ (List.mem_append_right _ (List.mem_append_right _ (List.mem_append_right _ (List.mem_append_right _ (List.mem_append_right _ (List.mem_append_right _ (List.mem_append_left _ h))))))))))
theorem q_t12 {w : Cond} (h : w ∈ tables_1_12) : w ∈ tables_1 := List.mem_append_right _ (List.mem_append_right _ (List.mem_append_right _ (List.mem_append_right _ (List.mem_append_right _ (List.mem_append_right _ (List.mem_append_right _ (List.mem_append_right _ (List.mem_append_right _ (List.mem_append_right _ (List.mem_append_right _ (List.mem_append_left _ h)))))))))))
theorem q_t13 {w : Cond} (h : w ∈ tables_1_13) : w ∈ tables_1 := List.mem_append_right _ (List.mem_append_right _ (List.mem_append_right _ (List.mem_append_right _ (List.mem_append_right _ (List.mem_append_right _ (List.mem_append_right _ (List.mem_append_right _ (List.mem_append_right _ (List.mem_append_right _ (List.mem_append_right _ (List.mem_append_right _ (List.mem_append_left _ h))))))))))))
theorem q_t14 {w : Cond} (h : w ∈ tables_1_14) : w ∈ tables_1 := List.mem_append_right _ (List.mem_append_right _ (List.mem_append_right _ (List.mem_append_right _ (List.mem_append_right _ (List.mem_append_right _ (List.mem_append_right _ (List.mem_append_right _ (List.mem_append_right _ (List.mem_append_right _ (List.mem_append_right _ (List.mem_append_right _ (List.mem_append_right _ (List.mem_append_left _ h)))))))))))))
theorem q_t15 {w : Cond} (h : w ∈ tables_1_15) : w ∈ tables_1 := List.mem_append_right _ (List.mem_append_right _ (List.mem_append_right _ (List.mem_append_right _ (List.mem_append_right _ (List.mem_append_right _ (List.mem_append_right _ (List.mem_append_right _ (List.mem_append_right _ (List.mem_append_right _ (List.mem_append_right _ (List.mem_append_right _ (List.mem_append_right _ (List.mem_append_right _ (List.mem_append_left _ h))))))))))))))
theorem q_t16 {w : Cond} (h : w ∈ tables_1_16) : w ∈ tables_1 := List.mem_append_right _ (List.mem_append_right _ (List.mem_append_right _ (List.mem_append_right _ (List.mem_append_right _ (List.mem_append_right _ (List.mem_append_right _ (List.mem_append_right _ (List.mem_append_right _ (List.mem_append_right _ (List.mem_append_right _ (List.mem_append_right _ (List.mem_append_right _ (List.mem_append_right _ (List.mem_append_right _ (List.mem_append_left _ h)))))))))))))))
theorem q_t17 {w : Cond} (h : w ∈ tables_1_17) : w ∈ tables_1 := List.mem_append_right _ (List.mem_append_right _ (List.mem_append_right _ (List.mem_append_right _ (List.mem_append_right _ (List.mem_append_right _ (List.mem_append_right _ (List.mem_append_right _ (List.mem_append_right _ (List.mem_append_right _ (List.mem_append_right _ (List.mem_append_right _ (List.mem_append_right _ (List.mem_append_right _ (List.mem_append_right _ (List.mem_append_right _ (h))))))))))))))))
set_option maxRecDepth 20000 in
theorem lw_p0 : lw_okq (⟨"SignalTheatre", "append", "(I)V"⟩, 8) := ⟨⟨by decide +kernel, by decide +kernel⟩, q_t1 (List.mem_of_getElem? (i := 42) rfl), q_t4 (List.mem_of_getElem? (i := 204) rfl), q_t4 (List.mem_of_getElem? (i := 205) rfl)⟩
set_option maxRecDepth 20000 in
theorem lw_p1 : lw_okq (⟨"SignalTheatre", "isThere", "(II)Z"⟩, 8) := ⟨⟨by decide +kernel, by decide +kernel⟩, q_t1 (List.mem_of_getElem? (i := 42) rfl), q_t11 (List.mem_of_getElem? (i := 48) rfl), q_t11 (List.mem_of_getElem? (i := 49) rfl)⟩
set_option maxRecDepth 20000 in
theorem lw_p2 : lw_okq (⟨"SignalTheatre", "isSignal", "(I)Z"⟩, 8) := ⟨⟨by decide +kernel, by decide +kernel⟩, q_t1 (List.mem_of_getElem? (i := 42) rfl), q_t11 (List.mem_of_getElem? (i := 52) rfl), q_t11 (List.mem_of_getElem? (i := 53) rfl)⟩
set_option maxRecDepth 20000 in
theorem lw_p3 : lw_okq (⟨"SignalTheatre$Tokens", "skipped", "(I)I"⟩, 20) := ⟨⟨by decide +kernel, by decide +kernel⟩, q_t1 (List.mem_of_getElem? (i := 51) rfl), q_t5 (List.mem_of_getElem? (i := 25) rfl), q_t5 (List.mem_of_getElem? (i := 26) rfl)⟩
set_option maxRecDepth 20000 in
theorem lw_p4 : lw_okq (⟨"SignalTheatre$Tokens", "add", "(III)V"⟩, 20) := ⟨⟨by decide +kernel, by decide +kernel⟩, q_t1 (List.mem_of_getElem? (i := 51) rfl), q_t5 (List.mem_of_getElem? (i := 125) rfl), q_t5 (List.mem_of_getElem? (i := 126) rfl)⟩
set_option maxRecDepth 20000 in
theorem lw_p5 : lw_okq (⟨"SignalTheatre$Builder", "noteStart", "()V"⟩, 18) := ⟨⟨by decide +kernel, by decide +kernel⟩, q_t3 (List.mem_of_getElem? (i := 113) rfl), q_t7 (List.mem_of_getElem? (i := 27) rfl), q_t7 (List.mem_of_getElem? (i := 28) rfl)⟩
set_option maxRecDepth 20000 in
theorem lw_p6 : lw_okq (⟨"SignalTheatre$Builder", "head", "()V"⟩, 18) := ⟨⟨by decide +kernel, by decide +kernel⟩, q_t3 (List.mem_of_getElem? (i := 113) rfl), q_t7 (List.mem_of_getElem? (i := 31) rfl), q_t7 (List.mem_of_getElem? (i := 32) rfl)⟩
set_option maxRecDepth 20000 in
theorem lw_p7 : lw_okq (⟨"SignalTheatreModel", "isThere", "(II)Z"⟩, 11) := ⟨⟨by decide +kernel, by decide +kernel⟩, q_t11 (List.mem_of_getElem? (i := 110) rfl), q_t17 (List.mem_of_getElem? (i := 114) rfl), q_t17 (List.mem_of_getElem? (i := 115) rfl)⟩
set_option maxRecDepth 20000 in
theorem lw_p8 : lw_okq (⟨"SignalTheatreModel$Tree", "module", "()I"⟩, 15) := ⟨⟨by decide +kernel, by decide +kernel⟩, q_t11 (List.mem_of_getElem? (i := 117) rfl), q_t14 (List.mem_of_getElem? (i := 62) rfl), q_t14 (List.mem_of_getElem? (i := 63) rfl)⟩
set_option maxRecDepth 20000 in
theorem lw_p9 : lw_okq (⟨"SignalTheatreModel$Tree", "needWord", "(Ljava/lang/String;)V"⟩, 15) := ⟨⟨by decide +kernel, by decide +kernel⟩, q_t11 (List.mem_of_getElem? (i := 117) rfl), q_t14 (List.mem_of_getElem? (i := 67) rfl), q_t14 (List.mem_of_getElem? (i := 68) rfl)⟩
set_option maxRecDepth 20000 in
theorem lw_p10 : lw_okq (⟨"SignalTheatreModel$Tree", "hasWord", "(Ljava/lang/String;)Z"⟩, 15) := ⟨⟨by decide +kernel, by decide +kernel⟩, q_t11 (List.mem_of_getElem? (i := 117) rfl), q_t14 (List.mem_of_getElem? (i := 71) rfl), q_t14 (List.mem_of_getElem? (i := 72) rfl)⟩
set_option maxRecDepth 20000 in
theorem lw_p11 : lw_okq (⟨"SignalTheatreModel$Tree", "word", "(Ljava/lang/String;)Z"⟩, 15) := ⟨⟨by decide +kernel, by decide +kernel⟩, q_t11 (List.mem_of_getElem? (i := 117) rfl), q_t14 (List.mem_of_getElem? (i := 75) rfl), q_t14 (List.mem_of_getElem? (i := 76) rfl)⟩
set_option maxRecDepth 20000 in
theorem lw_p12 : lw_okq (⟨"SignalTheatreModel$Tree", "kind", "()I"⟩, 15) := ⟨⟨by decide +kernel, by decide +kernel⟩, q_t11 (List.mem_of_getElem? (i := 117) rfl), q_t14 (List.mem_of_getElem? (i := 79) rfl), q_t14 (List.mem_of_getElem? (i := 80) rfl)⟩
set_option maxRecDepth 20000 in
theorem lw_p13 : lw_okq (⟨"SignalTheatreModel$Tree", "wrong", "()LSignalTheatreModel$Wrong;"⟩, 15) := ⟨⟨by decide +kernel, by decide +kernel⟩, q_t11 (List.mem_of_getElem? (i := 117) rfl), q_t14 (List.mem_of_getElem? (i := 93) rfl), q_t14 (List.mem_of_getElem? (i := 94) rfl)⟩
set_option maxRecDepth 20000 in
theorem lw_p14 : lw_okq (⟨"SignalTheatreModel$Cut", "skip", "()V"⟩, 17) := ⟨⟨by decide +kernel, by decide +kernel⟩, q_t11 (List.mem_of_getElem? (i := 123) rfl), q_t13 (List.mem_of_getElem? (i := 228) rfl), q_t13 (List.mem_of_getElem? (i := 229) rfl)⟩
set_option maxRecDepth 20000 in
theorem lw_p15 : lw_okq (⟨"SignalTheatreModel$Cut", "one", "()V"⟩, 17) := ⟨⟨by decide +kernel, by decide +kernel⟩, q_t11 (List.mem_of_getElem? (i := 123) rfl), q_t14 (List.mem_of_getElem? (i := 4) rfl), q_t14 (List.mem_of_getElem? (i := 5) rfl)⟩
set_option maxRecDepth 20000 in
theorem lw_p16 : lw_okq (⟨"SignalTheatreModel$Cut", "look", "(I)I"⟩, 17) := ⟨⟨by decide +kernel, by decide +kernel⟩, q_t11 (List.mem_of_getElem? (i := 123) rfl), q_t13 (List.mem_of_getElem? (i := 232) rfl), q_t13 (List.mem_of_getElem? (i := 233) rfl)⟩
set_option maxRecDepth 20000 in
theorem lw_p17 : lw_okq (⟨"SignalTheatreModel$Cut", "put", "(II)V"⟩, 17) := ⟨⟨by decide +kernel, by decide +kernel⟩, q_t11 (List.mem_of_getElem? (i := 123) rfl), q_t14 (List.mem_of_getElem? (i := 0) rfl), q_t14 (List.mem_of_getElem? (i := 1) rfl)⟩
def lw_privs : List (MethodName × Nat) := [(⟨"SignalTheatre", "append", "(I)V"⟩, 8), (⟨"SignalTheatre", "isThere", "(II)Z"⟩, 8), (⟨"SignalTheatre", "isSignal", "(I)Z"⟩, 8), (⟨"SignalTheatre$Tokens", "skipped", "(I)I"⟩, 20), (⟨"SignalTheatre$Tokens", "add", "(III)V"⟩, 20), (⟨"SignalTheatre$Builder", "noteStart", "()V"⟩, 18), (⟨"SignalTheatre$Builder", "head", "()V"⟩, 18), (⟨"SignalTheatreModel", "isThere", "(II)Z"⟩, 11), (⟨"SignalTheatreModel$Tree", "module", "()I"⟩, 15), (⟨"SignalTheatreModel$Tree", "needWord", "(Ljava/lang/String;)V"⟩, 15), (⟨"SignalTheatreModel$Tree", "hasWord", "(Ljava/lang/String;)Z"⟩, 15), (⟨"SignalTheatreModel$Tree", "word", "(Ljava/lang/String;)Z"⟩, 15), (⟨"SignalTheatreModel$Tree", "kind", "()I"⟩, 15), (⟨"SignalTheatreModel$Tree", "wrong", "()LSignalTheatreModel$Wrong;"⟩, 15), (⟨"SignalTheatreModel$Cut", "skip", "()V"⟩, 17), (⟨"SignalTheatreModel$Cut", "one", "()V"⟩, 17), (⟨"SignalTheatreModel$Cut", "look", "(I)I"⟩, 17), (⟨"SignalTheatreModel$Cut", "put", "(II)V"⟩, 17)]
def lw_tbl : List Cond := k2_sels lw_privs ++ tables_1
theorem lw_privs_ok : ∀ q ∈ lw_privs, lw_okq q := List.forall_mem_cons.mpr ⟨lw_p0, List.forall_mem_cons.mpr ⟨lw_p1, List.forall_mem_cons.mpr ⟨lw_p2, List.forall_mem_cons.mpr ⟨lw_p3, List.forall_mem_cons.mpr ⟨lw_p4, List.forall_mem_cons.mpr ⟨lw_p5, List.forall_mem_cons.mpr ⟨lw_p6, List.forall_mem_cons.mpr ⟨lw_p7, List.forall_mem_cons.mpr ⟨lw_p8, List.forall_mem_cons.mpr ⟨lw_p9, List.forall_mem_cons.mpr ⟨lw_p10, List.forall_mem_cons.mpr ⟨lw_p11, List.forall_mem_cons.mpr ⟨lw_p12, List.forall_mem_cons.mpr ⟨lw_p13, List.forall_mem_cons.mpr ⟨lw_p14, List.forall_mem_cons.mpr ⟨lw_p15, List.forall_mem_cons.mpr ⟨lw_p16, List.forall_mem_cons.mpr ⟨lw_p17, fun _ h => absurd h List.not_mem_nil⟩⟩⟩⟩⟩⟩⟩⟩⟩⟩⟩⟩⟩⟩⟩⟩⟩⟩
/-- the words that are no steady ones, and stay under warmer tables all the same -/
def q_nw : Cond → Bool
  | .fieldLinkNest .. => true
  | .methodLinkNest .. => true
  | .arrayOver (.object _) => true
  | .declares _ => true
  | .castable .. => true
  | .stringRef .. => true
  | _ => false
/-- the steady words; the others -/
def q_big : List Cond := lw_tbl.filter goodWord
def q_nest : List Cond := lw_tbl.filter q_nw
theorem q_big_ok : ∀ w ∈ q_big, goodWord w = true := fun _ h => (List.mem_filter.mp h).2
theorem q_nest_ok : ∀ w ∈ q_nest, q_nw w = true := fun _ h => (List.mem_filter.mp h).2
theorem q_m1 {w : Cond} (h : w ∈ tables_1_1) (g : goodWord w = true) : w ∈ q_big := List.mem_filter.mpr ⟨List.mem_append_right _ (q_t1 h), g⟩
theorem q_n1 {w : Cond} (h : w ∈ tables_1_1) (g : q_nw w = true) : w ∈ q_nest := List.mem_filter.mpr ⟨List.mem_append_right _ (q_t1 h), g⟩
theorem q_m2 {w : Cond} (h : w ∈ tables_1_2) (g : goodWord w = true) : w ∈ q_big := List.mem_filter.mpr ⟨List.mem_append_right _ (q_t2 h), g⟩
theorem q_n2 {w : Cond} (h : w ∈ tables_1_2) (g : q_nw w = true) : w ∈ q_nest := List.mem_filter.mpr ⟨List.mem_append_right _ (q_t2 h), g⟩
theorem q_m3 {w : Cond} (h : w ∈ tables_1_3) (g : goodWord w = true) : w ∈ q_big := List.mem_filter.mpr ⟨List.mem_append_right _ (q_t3 h), g⟩
theorem q_n3 {w : Cond} (h : w ∈ tables_1_3) (g : q_nw w = true) : w ∈ q_nest := List.mem_filter.mpr ⟨List.mem_append_right _ (q_t3 h), g⟩
theorem q_m4 {w : Cond} (h : w ∈ tables_1_4) (g : goodWord w = true) : w ∈ q_big := List.mem_filter.mpr ⟨List.mem_append_right _ (q_t4 h), g⟩
theorem q_n4 {w : Cond} (h : w ∈ tables_1_4) (g : q_nw w = true) : w ∈ q_nest := List.mem_filter.mpr ⟨List.mem_append_right _ (q_t4 h), g⟩
theorem q_m5 {w : Cond} (h : w ∈ tables_1_5) (g : goodWord w = true) : w ∈ q_big := List.mem_filter.mpr ⟨List.mem_append_right _ (q_t5 h), g⟩
theorem q_n5 {w : Cond} (h : w ∈ tables_1_5) (g : q_nw w = true) : w ∈ q_nest := List.mem_filter.mpr ⟨List.mem_append_right _ (q_t5 h), g⟩
theorem q_m6 {w : Cond} (h : w ∈ tables_1_6) (g : goodWord w = true) : w ∈ q_big := List.mem_filter.mpr ⟨List.mem_append_right _ (q_t6 h), g⟩
theorem q_n6 {w : Cond} (h : w ∈ tables_1_6) (g : q_nw w = true) : w ∈ q_nest := List.mem_filter.mpr ⟨List.mem_append_right _ (q_t6 h), g⟩
theorem q_m7 {w : Cond} (h : w ∈ tables_1_7) (g : goodWord w = true) : w ∈ q_big := List.mem_filter.mpr ⟨List.mem_append_right _ (q_t7 h), g⟩
theorem q_n7 {w : Cond} (h : w ∈ tables_1_7) (g : q_nw w = true) : w ∈ q_nest := List.mem_filter.mpr ⟨List.mem_append_right _ (q_t7 h), g⟩
theorem q_m8 {w : Cond} (h : w ∈ tables_1_8) (g : goodWord w = true) : w ∈ q_big := List.mem_filter.mpr ⟨List.mem_append_right _ (q_t8 h), g⟩
theorem q_n8 {w : Cond} (h : w ∈ tables_1_8) (g : q_nw w = true) : w ∈ q_nest := List.mem_filter.mpr ⟨List.mem_append_right _ (q_t8 h), g⟩
theorem q_m9 {w : Cond} (h : w ∈ tables_1_9) (g : goodWord w = true) : w ∈ q_big := List.mem_filter.mpr ⟨List.mem_append_right _ (q_t9 h), g⟩
theorem q_n9 {w : Cond} (h : w ∈ tables_1_9) (g : q_nw w = true) : w ∈ q_nest := List.mem_filter.mpr ⟨List.mem_append_right _ (q_t9 h), g⟩
theorem q_m10 {w : Cond} (h : w ∈ tables_1_10) (g : goodWord w = true) : w ∈ q_big := List.mem_filter.mpr ⟨List.mem_append_right _ (q_t10 h), g⟩
theorem q_n10 {w : Cond} (h : w ∈ tables_1_10) (g : q_nw w = true) : w ∈ q_nest := List.mem_filter.mpr ⟨List.mem_append_right _ (q_t10 h), g⟩
theorem q_m11 {w : Cond} (h : w ∈ tables_1_11) (g : goodWord w = true) : w ∈ q_big := List.mem_filter.mpr ⟨List.mem_append_right _ (q_t11 h), g⟩
theorem q_n11 {w : Cond} (h : w ∈ tables_1_11) (g : q_nw w = true) : w ∈ q_nest := List.mem_filter.mpr ⟨List.mem_append_right _ (q_t11 h), g⟩
theorem q_m12 {w : Cond} (h : w ∈ tables_1_12) (g : goodWord w = true) : w ∈ q_big := List.mem_filter.mpr ⟨List.mem_append_right _ (q_t12 h), g⟩
theorem q_n12 {w : Cond} (h : w ∈ tables_1_12) (g : q_nw w = true) : w ∈ q_nest := List.mem_filter.mpr ⟨List.mem_append_right _ (q_t12 h), g⟩
theorem q_m13 {w : Cond} (h : w ∈ tables_1_13) (g : goodWord w = true) : w ∈ q_big := List.mem_filter.mpr ⟨List.mem_append_right _ (q_t13 h), g⟩
theorem q_n13 {w : Cond} (h : w ∈ tables_1_13) (g : q_nw w = true) : w ∈ q_nest := List.mem_filter.mpr ⟨List.mem_append_right _ (q_t13 h), g⟩
theorem q_m14 {w : Cond} (h : w ∈ tables_1_14) (g : goodWord w = true) : w ∈ q_big := List.mem_filter.mpr ⟨List.mem_append_right _ (q_t14 h), g⟩
theorem q_n14 {w : Cond} (h : w ∈ tables_1_14) (g : q_nw w = true) : w ∈ q_nest := List.mem_filter.mpr ⟨List.mem_append_right _ (q_t14 h), g⟩
theorem q_m15 {w : Cond} (h : w ∈ tables_1_15) (g : goodWord w = true) : w ∈ q_big := List.mem_filter.mpr ⟨List.mem_append_right _ (q_t15 h), g⟩
theorem q_n15 {w : Cond} (h : w ∈ tables_1_15) (g : q_nw w = true) : w ∈ q_nest := List.mem_filter.mpr ⟨List.mem_append_right _ (q_t15 h), g⟩
theorem q_m16 {w : Cond} (h : w ∈ tables_1_16) (g : goodWord w = true) : w ∈ q_big := List.mem_filter.mpr ⟨List.mem_append_right _ (q_t16 h), g⟩
theorem q_n16 {w : Cond} (h : w ∈ tables_1_16) (g : q_nw w = true) : w ∈ q_nest := List.mem_filter.mpr ⟨List.mem_append_right _ (q_t16 h), g⟩
theorem q_m17 {w : Cond} (h : w ∈ tables_1_17) (g : goodWord w = true) : w ∈ q_big := List.mem_filter.mpr ⟨List.mem_append_right _ (q_t17 h), g⟩
theorem q_n17 {w : Cond} (h : w ∈ tables_1_17) (g : q_nw w = true) : w ∈ q_nest := List.mem_filter.mpr ⟨List.mem_append_right _ (q_t17 h), g⟩
theorem q_sel {q : MethodName × Nat} (h : q ∈ lw_privs) : Cond.selects q.1.cls q.1 q.1 ∈ q_big := List.mem_filter.mpr ⟨List.mem_append_left _ (List.mem_map.mpr ⟨q, h, rfl⟩), rfl⟩
