set_option maxRecDepth 20000 in
theorem m40_0 : (Cond.instantiable "SignalTheatre" 8 : Cond) ∈ q_big := q_m1 (List.mem_of_getElem? (i := 42) rfl) rfl
set_option maxRecDepth 20000 in
theorem m40_1 : (Cond.instantiable "SignalTheatre$Tokens" 20 : Cond) ∈ q_big := q_m1 (List.mem_of_getElem? (i := 51) rfl) rfl
set_option maxRecDepth 20000 in
theorem m40_2 : (Cond.instantiable "SignalTheatre$Faults" 7 : Cond) ∈ q_big := q_m1 (List.mem_of_getElem? (i := 139) rfl) rfl
set_option maxRecDepth 20000 in
theorem m40_3 : (Cond.instantiable "SignalTheatre$Maker" 18 : Cond) ∈ q_big := q_m1 (List.mem_of_getElem? (i := 171) rfl) rfl
set_option maxRecDepth 20000 in
theorem m40_4 : (Cond.instantiable "SignalTheatre$Worth" 8 : Cond) ∈ q_big := q_m1 (List.mem_of_getElem? (i := 173) rfl) rfl
set_option maxRecDepth 20000 in
theorem m40_5 : (Cond.instantiable "SignalTheatre$Reader" 9 : Cond) ∈ q_big := q_m2 (List.mem_of_getElem? (i := 33) rfl) rfl
set_option maxRecDepth 20000 in
theorem m40_6 : (Cond.instantiable "SignalTheatre$Circuit" 20 : Cond) ∈ q_big := q_m2 (List.mem_of_getElem? (i := 70) rfl) rfl
set_option maxRecDepth 20000 in
theorem m40_7 : (Cond.instantiable "SignalTheatre$Code" 20 : Cond) ∈ q_big := q_m2 (List.mem_of_getElem? (i := 77) rfl) rfl
set_option maxRecDepth 20000 in
theorem m40_8 : (Cond.instantiable "SignalTheatre$Signal" 13 : Cond) ∈ q_big := q_m2 (List.mem_of_getElem? (i := 183) rfl) rfl
set_option maxRecDepth 20000 in
theorem m40_9 : (Cond.instantiable "SignalTheatre$Builder" 18 : Cond) ∈ q_big := q_m3 (List.mem_of_getElem? (i := 113) rfl) rfl
set_option maxRecDepth 20000 in
theorem m40_10 : (Cond.instantiable "SignalTheatre$Stage" 18 : Cond) ∈ q_big := q_m3 (List.mem_of_getElem? (i := 176) rfl) rfl
set_option maxRecDepth 20000 in
theorem m40_11 : (Cond.instantiable "SignalTheatre$Agenda" 16 : Cond) ∈ q_big := q_m3 (List.mem_of_getElem? (i := 178) rfl) rfl
set_option maxRecDepth 20000 in
theorem m40_12 : (Cond.instantiable "SignalTheatre$Book" 6 : Cond) ∈ q_big := q_m4 (List.mem_of_getElem? (i := 2) rfl) rfl
set_option maxRecDepth 20000 in
theorem m40_13 : (Cond.instantiable "SignalTheatreModel" 11 : Cond) ∈ q_big := q_m11 (List.mem_of_getElem? (i := 110) rfl) rfl
set_option maxRecDepth 20000 in
theorem m40_14 : (Cond.instantiable "SignalTheatreModel$Tree" 15 : Cond) ∈ q_big := q_m11 (List.mem_of_getElem? (i := 117) rfl) rfl
set_option maxRecDepth 20000 in
theorem m40_15 : (Cond.instantiable "SignalTheatreModel$Cut" 17 : Cond) ∈ q_big := q_m11 (List.mem_of_getElem? (i := 123) rfl) rfl
set_option maxRecDepth 20000 in
theorem m40_16 : (Cond.instantiable "SignalTheatreModel$Wrong" 8 : Cond) ∈ q_big := q_m11 (List.mem_of_getElem? (i := 195) rfl) rfl
set_option maxRecDepth 20000 in
theorem m40_17 : (Cond.instantiable "SignalTheatreModel$Circuit" 100 : Cond) ∈ q_big := q_m12 (List.mem_of_getElem? (i := 38) rfl) rfl
set_option maxRecDepth 20000 in
theorem m40_18 : (Cond.instantiable "SignalTheatreModel$Circuit$Row" 9 : Cond) ∈ q_big := q_m12 (List.mem_of_getElem? (i := 47) rfl) rfl
set_option maxRecDepth 20000 in
theorem m40_19 : (Cond.classLink "SignalTheatreLaw" 8 "SignalTheatre" : Cond) ∈ q_big := q_m1 (List.mem_of_getElem? (i := 41) rfl) rfl
set_option maxRecDepth 20000 in
theorem m40_20 : (Cond.initialized "SignalTheatre" : Cond) ∈ q_big := q_m1 (List.mem_of_getElem? (i := 1) rfl) rfl
set_option maxRecDepth 20000 in
theorem m40_21 : (Cond.methodLink "SignalTheatreLaw" 53 ⟨"SignalTheatre", "<init>", "()V"⟩ : Cond) ∈ q_big := q_m1 (List.mem_of_getElem? (i := 43) rfl) rfl
set_option maxRecDepth 20000 in
theorem m40_22 : (Cond.code ⟨"SignalTheatre", "<init>", "()V"⟩ prog_1_method_1_code 6 none : Cond) ∈ q_big := q_m1 (List.mem_of_getElem? (i := 45) rfl) rfl
set_option maxRecDepth 20000 in
theorem m40_23 : (Cond.instanceMethod ⟨"SignalTheatre", "<init>", "()V"⟩ : Cond) ∈ q_big := q_m1 (List.mem_of_getElem? (i := 44) rfl) rfl
set_option maxRecDepth 20000 in
theorem m40_24 : (Cond.classLink "SignalTheatreLaw" 54 "SignalTheatreModel" : Cond) ∈ q_big := q_m11 (List.mem_of_getElem? (i := 109) rfl) rfl
set_option maxRecDepth 20000 in
theorem m40_25 : (Cond.initialized "SignalTheatreModel" : Cond) ∈ q_big := q_m1 (List.mem_of_getElem? (i := 14) rfl) rfl
set_option maxRecDepth 20000 in
theorem m40_26 : (Cond.methodLink "SignalTheatreLaw" 56 ⟨"SignalTheatreModel", "<init>", "()V"⟩ : Cond) ∈ q_big := q_m11 (List.mem_of_getElem? (i := 111) rfl) rfl
set_option maxRecDepth 20000 in
theorem m40_27 : (Cond.code ⟨"SignalTheatreModel", "<init>", "()V"⟩ prog_15_method_1_code 1 none : Cond) ∈ q_big := q_m11 (List.mem_of_getElem? (i := 113) rfl) rfl
set_option maxRecDepth 20000 in
theorem m40_28 : (Cond.instanceMethod ⟨"SignalTheatreModel", "<init>", "()V"⟩ : Cond) ∈ q_big := q_m11 (List.mem_of_getElem? (i := 112) rfl) rfl
set_option maxRecDepth 20000 in
theorem m40_29 : (Cond.arrayClass FieldType.long : Cond) ∈ q_big := q_m1 (List.mem_of_getElem? (i := 137) rfl) rfl
theorem d40_SignalTheatreLaw_law_868 : decode code 868 = .ok (.iinc 4 7, 3) := by decide +kernel
theorem d40_SignalTheatreLaw_law_871 : decode code 871 = .ok (.goto (-848), 3) := by decide +kernel
theorem d40_SignalTheatreLaw_law_23 : decode code 23 = .ok (.iload 4, 2) := by decide +kernel
theorem d40_SignalTheatreLaw_law_25 : decode code 25 = .ok (.aload_n 0, 1) := by decide +kernel
theorem d40_SignalTheatreLaw_law_26 : decode code 26 = .ok (.arraylength, 1) := by decide +kernel
theorem d40_SignalTheatreLaw_law_27 : decode code 27 = .ok (.bipush 7, 2) := by decide +kernel
theorem d40_SignalTheatreLaw_law_29 : decode code 29 = .ok (.isub, 1) := by decide +kernel
theorem d40_SignalTheatreLaw_law_30 : decode code 30 = .ok (.if_icmp .gt 844, 3) := by decide +kernel
theorem d40_SignalTheatreLaw_law_874 : decode code 874 = .ok (.iconst 1, 1) := by decide +kernel
theorem d40_SignalTheatreLaw_law_875 : decode code 875 = .ok (.ireturn, 1) := by decide +kernel
theorem d40_SignalTheatreLaw_law_0 : decode code 0 = .ok (.new 8, 3) := by decide +kernel
theorem d40_SignalTheatreLaw_law_3 : decode code 3 = .ok (.dup, 1) := by decide +kernel
theorem d40_SignalTheatreLaw_law_4 : decode code 4 = .ok (.invokespecial 53, 3) := by decide +kernel
theorem d40_SignalTheatreLaw_law_7 : decode code 7 = .ok (.astore_n 1, 1) := by decide +kernel
theorem d40_SignalTheatreLaw_law_8 : decode code 8 = .ok (.new 54, 3) := by decide +kernel
theorem d40_SignalTheatreLaw_law_11 : decode code 11 = .ok (.dup, 1) := by decide +kernel
theorem d40_SignalTheatreLaw_law_12 : decode code 12 = .ok (.invokespecial 56, 3) := by decide +kernel
theorem d40_SignalTheatreLaw_law_15 : decode code 15 = .ok (.astore_n 2, 1) := by decide +kernel
theorem d40_SignalTheatreLaw_law_16 : decode code 16 = .ok (.iconst 1, 1) := by decide +kernel
theorem d40_SignalTheatreLaw_law_17 : decode code 17 = .ok (.newarray .long, 2) := by decide +kernel
theorem d40_SignalTheatreLaw_law_19 : decode code 19 = .ok (.astore_n 3, 1) := by decide +kernel
theorem d40_SignalTheatreLaw_law_20 : decode code 20 = .ok (.iconst 0, 1) := by decide +kernel
theorem d40_SignalTheatreLaw_law_21 : decode code 21 = .ok (.istore 4, 2) := by decide +kernel
theorem d40_SignalTheatreLaw_law_33 : decode code 33 = .ok (.aload_n 0, 1) := by decide +kernel
theorem d40_SignalTheatreLaw_law_34 : decode code 34 = .ok (.iload 4, 2) := by decide +kernel
theorem d40_SignalTheatreLaw_law_36 : decode code 36 = .ok (.iaload, 1) := by decide +kernel
theorem d40_SignalTheatreLaw_law_37 : decode code 37 = .ok (.bipush 15, 2) := by decide +kernel
theorem d40_SignalTheatreLaw_law_39 : decode code 39 = .ok (.iand, 1) := by decide +kernel
theorem d40_SignalTheatreLaw_law_40 : decode code 40 = .ok (.tableswitch 828 0 11 #[64, 168, 224, 268, 324, 380, 459, 597, 665, 733, 789, 803], 64) := by decide +kernel
def R_law : String := "SignalTheatreLaw"
def lw_P (b : Addr) (xs : List Int32) (args : Array Value) (s : State) : Prop := args = #[.ref b] ∧ s.IntsAt b xs ∧ xs.length ≤ 7 ∧ (Jvm.Cond.and given_1 narrow_1).before args s = true
def lw_Q (_ : Array Value) (s : State) (o : Outcome) (t : State) : Prop := o = .returned (some (.int 1)) ∧ Framed s o t [] 200844 8499706
def lw_Z (below : List Frame) (a : Array Value) (s : State) : State → Prop := fun t => ∃ o, t.status = .running ∧ Ended t below o ∧ lw_Q a s o t
/-- the law's own end, with 1 on the stack, nothing written that was there before, its room as the claim has it -/
theorem lw_ret {p : Program} {l : Launch} {e : Env} {s : State} {m : MethodId} {below : List Frame} {meth : Method} {c : Code} {b : Nat} (hx : p.tables.exec = Jvm.exec) (hb : c.code = code) (hr : meth.sig.returnType = ret) (hlocks : meth.locks = false) {pc : Nat} {H : Heap} {ls : Array Slot} (hdg : decode code pc = .ok (.ireturn, 1)) : W p l e room_1 s m #[Value.ref b] below meth c H [] 200844 8499706 (lw_Z below #[Value.ref b] s) (F0 m pc ls [.int 1]) := by
  intro T hT X
  obtain ⟨fs, hret, hrun, hended, hW, hframe⟩ := X.leave (v := some (.int 1)) (hlocks := hlocks) (fun h => by rw [hr] at h; cases h)
  have hmeth' : T.vm.method? m = some meth := X.method'
  refine ⟨T.setFrames fs, ?_, .returned (some (.int 1)), hrun, hended, rfl, ⟨_, rfl⟩, hW, hframe⟩
  jvm_step X.here [X.here.top, hx, hb, hdg, hmeth', hr, ret, narrow_b1]
  (try refine ⟨rfl, ?_⟩); (try refine ⟨rfl, ?_⟩)
  first | (intro acts; rw [hret _ acts rfl rfl rfl]) | rw [hret _ _ rfl rfl rfl]
  exact Steps.refl _
/-- what holds at the law's entry: the machine, the code, the tables' words (any of lw_tbl by 'hts w (by decide +kernel)'), the script of L ints xs at the cell b, what the Statement gives of the start (any of its parts by flat_of_before) -/
def lw_At (p : Program) (s : State) (m : MethodId) (meth : Method) (c : Code) (b L : Nat) (xs : Nat → Int32) : Prop :=
  p.tables.exec = Jvm.exec ∧ c.code = code ∧ meth.sig.returnType = ret ∧ c.maxLocals = 8 ∧ s.vm.findClass R_law = some m.cls ∧ (∀ w ∈ lw_tbl, w.before #[Value.ref b] s = true) ∧ va_X b L xs s s.heap ∧ b < s.heap.size ∧ meth.locks = false ∧ (Jvm.Cond.and given_1 narrow_1).before #[Value.ref b] s = true
set_option maxRecDepth 20000 in
theorem lw_lay1 : (Cond.laysStatic "java/lang/Throwable" "UNASSIGNED_STACK" "[Ljava/lang/StackTraceElement;" : Cond) ∈ lw_tbl := List.mem_append_right _ (q_t4 (List.mem_of_getElem? (i := 163) rfl))
set_option maxRecDepth 20000 in
theorem lw_lay2 : (Cond.laysStatic "java/lang/Throwable" "SUPPRESSED_SENTINEL" "Ljava/util/List;" : Cond) ∈ lw_tbl := List.mem_append_right _ (q_t4 (List.mem_of_getElem? (i := 165) rfl))
/-- the classes of the worlds are known at the start -/
theorem lw_K {s : State} {args : Array Value} (hts : ∀ w ∈ q_big, w.before args s = true) : ∃ D : va_G, va_K D q_cl [] s := by
  have h : ∀ i : Nat, ∃ (cC : ClassId) (iS : Nat → Nat), ∀ q : vw_C, q_cl[i]? = some q → u_Kn s q.1 q.2.1 q.2.2 cC iS := by
    intro i
    match i with
    | 0 =>
      obtain ⟨a, b, h⟩ := u_known hts i_S (hts _ m40_0)
      exact ⟨a, b, fun q hq => by cases hq; exact h⟩
    | 1 =>
      obtain ⟨a, b, h⟩ := u_known hts i_Tok (hts _ m40_1)
      exact ⟨a, b, fun q hq => by cases hq; exact h⟩
    | 2 =>
      obtain ⟨a, b, h⟩ := u_known hts i_Flt (hts _ m40_2)
      exact ⟨a, b, fun q hq => by cases hq; exact h⟩
    | 3 =>
      obtain ⟨a, b, h⟩ := u_known hts i_Mak (hts _ m40_3)
      exact ⟨a, b, fun q hq => by cases hq; exact h⟩
    | 4 =>
      obtain ⟨a, b, h⟩ := u_known hts i_Wor (hts _ m40_4)
      exact ⟨a, b, fun q hq => by cases hq; exact h⟩
    | 5 =>
      obtain ⟨a, b, h⟩ := u_known hts i_Rea (hts _ m40_5)
      exact ⟨a, b, fun q hq => by cases hq; exact h⟩
    | 6 =>
      obtain ⟨a, b, h⟩ := u_known hts i_Cir (hts _ m40_6)
      exact ⟨a, b, fun q hq => by cases hq; exact h⟩
    | 7 =>
      obtain ⟨a, b, h⟩ := u_known hts i_Cod (hts _ m40_7)
      exact ⟨a, b, fun q hq => by cases hq; exact h⟩
    | 8 =>
      obtain ⟨a, b, h⟩ := u_known hts i_Sig (hts _ m40_8)
      exact ⟨a, b, fun q hq => by cases hq; exact h⟩
    | 9 =>
      obtain ⟨a, b, h⟩ := u_known hts i_Bui (hts _ m40_9)
      exact ⟨a, b, fun q hq => by cases hq; exact h⟩
    | 10 =>
      obtain ⟨a, b, h⟩ := u_known hts i_Sta (hts _ m40_10)
      exact ⟨a, b, fun q hq => by cases hq; exact h⟩
    | 11 =>
      obtain ⟨a, b, h⟩ := u_known hts i_Age (hts _ m40_11)
      exact ⟨a, b, fun q hq => by cases hq; exact h⟩
    | 12 =>
      obtain ⟨a, b, h⟩ := u_known hts i_Boo (hts _ m40_12)
      exact ⟨a, b, fun q hq => by cases hq; exact h⟩
    | 13 =>
      obtain ⟨a, b, h⟩ := u_known hts i_Mod (hts _ m40_13)
      exact ⟨a, b, fun q hq => by cases hq; exact h⟩
    | 14 =>
      obtain ⟨a, b, h⟩ := u_known hts i_Tre (hts _ m40_14)
      exact ⟨a, b, fun q hq => by cases hq; exact h⟩
    | 15 =>
      obtain ⟨a, b, h⟩ := u_known hts i_Cut (hts _ m40_15)
      exact ⟨a, b, fun q hq => by cases hq; exact h⟩
    | 16 =>
      obtain ⟨a, b, h⟩ := u_known hts i_Wro (hts _ m40_16)
      exact ⟨a, b, fun q hq => by cases hq; exact h⟩
    | 17 =>
      obtain ⟨a, b, h⟩ := u_known hts i_Mci (hts _ m40_17)
      exact ⟨a, b, fun q hq => by cases hq; exact h⟩
    | 18 =>
      obtain ⟨a, b, h⟩ := u_known hts i_Row (hts _ m40_18)
      exact ⟨a, b, fun q hq => by cases hq; exact h⟩
    | n + 19 => exact ⟨0, fun _ => 0, fun q hq => nomatch (show (none : Option vw_C) = some q from hq)⟩
  exact ⟨(fun i => (h i).choose, fun i => (h i).choose_spec.choose), fun c q hq => (h c).choose_spec.choose_spec q hq, fun k q hk => by cases hk⟩
theorem lw_N {s : State} {args : Array Value} (hts : ∀ w ∈ lw_tbl, w.before args s = true) (hgv : (Jvm.Cond.and given_1 narrow_1).before args s = true) : q_N s := by
  have hs := flat_of_before _ hgv
  refine ⟨fun w hw => ?_, fun z hz => ?_⟩
  · obtain ⟨h1, h2⟩ := List.mem_filter.mp hw
    have hn := hts w h1
    unfold q_nw at h2
    split at h2
    · exact va_Nw.of rfl hn
    · exact va_Nw.of rfl hn
    · exact hn
    · exact va_Nw.of rfl hn
    · exact va_Nw.of rfl hn
    · exact q_str rfl hn
    · cases h2
  · have e1 : (Cond.not (.castable "java/lang/IllegalStateException" "java/lang/IllegalArgumentException")).before args s = true := hs _ (by decide +kernel)
    have e2 : (Cond.not (.castable "java/util/NoSuchElementException" "java/lang/IllegalArgumentException")).before args s = true := hs _ (by decide +kernel)
    rcases List.mem_cons.mp hz with rfl | hz
    · exact va_Nc.of e1
    · obtain rfl := List.mem_singleton.mp hz
      exact va_Nc.of e2
theorem lw_St {s : State} {args : Array Value} (hts : ∀ w ∈ lw_tbl, w.before args s = true) (hgv : (Jvm.Cond.and given_1 narrow_1).before args s = true) : q_St (lw_A s) s s.heap := by
  have hs := flat_of_before _ hgv
  have r1 : (Cond.isRef (.static Bundle.tN "UNASSIGNED_STACK" Bundle.steD)).before args s = true := hs _ (by decide +kernel)
  have r2 : (Cond.isRef (.static Bundle.tN "SUPPRESSED_SENTINEL" Bundle.listD)).before args s = true := hs _ (by decide +kernel)
  exact ⟨q_L.of (hts _ (lw_lay1)) r1 (fun a h => Nat.not_le.mpr h), q_L.of (hts _ (lw_lay2)) r2 (fun a h => Nat.not_le.mpr h)⟩
theorem lw_short {L : Nat} (h : L < 7) : Int32.ofNat L - 7 < 0 := by
  match L, h with
  | 0, _ => decide
  | 1, _ => decide
  | 2, _ => decide
  | 3, _ => decide
  | 4, _ => decide
  | 5, _ => decide
  | 6, _ => decide
  | n + 7, h => omega
set_option maxHeartbeats 4000000 in
set_option maxRecDepth 100000 in
/-- behind the switch: no second turn -/
theorem lw_end {p : Program} {l : Launch} {e : Env} {s : State} {m : MethodId} {below : List Frame} {meth : Method} {c : Code} {D : va_G} {H : Heap} {locs : List Loc} {ls : Array Slot} {b : Nat} {xs : Nat → Int32} (C : q_C p s m meth c #[Value.ref b] code 8 "SignalTheatreLaw" (lw_A s)) (hr : meth.sig.returnType = ret) (hX : va_X b 7 xs s s.heap) (hbl : b < s.heap.size)
    (I : q_I D q_cl (lw_A s) s [] [] H locs) (hl : lv_has ls 8 [(4, .int 0), (0, .ref b)]) : W p l e room_1 s m #[Value.ref b] below meth c H locs 1300 5870000 (lw_Z below #[Value.ref b] s) (F0 m 868 ls []) := by
  have hx := C.1
  have hb := C.2.1
  refine lv_iinc (v := 7) (lv' := [(4, .int 7), (0, .ref b)]) hx hb d40_SignalTheatreLaw_law_868 hl (k := 0) rfl (by decide) (by decide) rfl (fun ls hl => ?_)
  refine lv_goto (tgt := 23) hx hb d40_SignalTheatreLaw_law_871 (by decide) ?_
  refine lv_iload hx hb d40_SignalTheatreLaw_law_23 (lv_at hl 0 rfl) ?_
  refine lv_aload_n hx hb d40_SignalTheatreLaw_law_25 rfl (lv_at hl 1 rfl) ?_
  refine va_slen hx hb hX hbl (Nat.not_le.mpr hbl) I.2.2.2 d40_SignalTheatreLaw_law_26 ?_
  refine W.eq (g2 := F0 m 27 ls [.int 7, .int 7]) rfl ?_
  refine lv_bipush (v := 7) hx hb d40_SignalTheatreLaw_law_27 (by decide) ?_
  refine lv_isub hx hb d40_SignalTheatreLaw_law_29 ?_
  refine W.eq (g2 := F0 m 30 ls [.int 0, .int 7]) rfl ?_
  refine lv_icmp_gt (tgt := 874) hx hb d40_SignalTheatreLaw_law_30 (by decide) (fun _ => ?_) (fun h => absurd (by decide) h)
  refine lv_iconst (v := 1) hx hb d40_SignalTheatreLaw_law_874 (by decide) ?_
  refine va_forget (fun q hq => I.2.2.2.2.2 q hq) ?_
  refine W.widen (k := 200844) (n := 8499706) (Nat.le_of_ble_eq_true rfl) (Nat.le_of_ble_eq_true rfl) ?_
  exact lw_ret hx hb hr C.2.2.2.2.2.2.2.2.1 d40_SignalTheatreLaw_law_875
set_option maxHeartbeats 8000000 in
set_option maxRecDepth 100000 in
/-- from the entry to the end, for every script of at most 7 ints -/
theorem whole_start {p : Program} {e : Env} {s : State} {m : MethodId} {below : List Frame} {meth : Method} {c : Code} (l : Launch) (hl9 : l.stackTraces = false) {b L : Nat} {xs : Nat → Int32} (hL : L ≤ 7) (C0 : lw_At p s m meth c b L xs) : W p l e room_1 s m #[Value.ref b] below meth c s.heap [] 0 0 (lw_Z below #[Value.ref b] s) (entryFrame m ([Value.ref b] : List Value).toArray 8) := by
  obtain ⟨hx, hb, hr, hml, hown, hts, hX, hbl, hlocks, hgv⟩ := C0
  have hbig : ∀ w ∈ q_big, w.before #[Value.ref b] s = true := fun w hw => hts w (List.mem_filter.mp hw).1
  obtain ⟨D, hK⟩ := lw_K hbig
  have C : q_C p s m meth c #[Value.ref b] code 8 "SignalTheatreLaw" (lw_A s) := ⟨hx, hb, hml, hown, hbig, lw_N hts hgv, lw_St hts hgv, fun _ h => h, hlocks, fun q cell hq hc => absurd (Array.getElem?_eq_some_iff.mp hc).1 (Nat.not_lt.mpr hq)⟩
  have I : q_I D q_cl (lw_A s) s [] [] s.heap [] := ⟨fun k q h => (by cases h), ⟨fun i j p q h => (by cases h), fun k q h => (by cases h)⟩, hK, va_S.rf⟩
  have hl := lv_entry ([.ref b]) (n := 8) (Nat.le_of_ble_eq_true rfl)
  rw [lg_entry_eq]
  generalize (lg_sl ([.ref b]) ++ List.replicate (8 - (lg_sl ([.ref b])).length) Slot.unset).toArray = ls at hl ⊢
  have hl : lv_has ls 8 [(0, .ref b)] := hl
  refine q_new t_S t_S_ok C I (ci := 0) rfl i_S m40_19 m40_0 m40_20 z_S_ok (Nat.le_of_ble_eq_true rfl) (Nat.le_of_ble_eq_true rfl) d40_SignalTheatreLaw_law_0 (fun q1 H I => ?_)
  have I : q_I D q_cl _ s [(q1, .inr (0, [.null, .int 0, .int 0, .null, .null, .null, .null, .null]))] [] H _ := I
  refine lv_dup hx hb d40_SignalTheatreLaw_law_3 rfl ?_
  refine q_go (wr := []) (tyr := []) C I (q_siteI (As := []) (rest := [.ref q1]) C rfl m40_21 m40_23 m40_22 ⟨by decide, by decide⟩ (Eq.trans (b := some 0) (by decide +kernel) rfl) rfl d40_SignalTheatreLaw_law_4) (c_S_init l D q1) m40_22 m40_20 [0] [] [] [] rfl rfl (by decide) (by decide) (by decide) rfl rfl hl.1 d40_SignalTheatreLaw_law_4 (Nat.le_of_ble_eq_true rfl) (Nat.le_of_ble_eq_true rfl) (Nat.le_of_ble_eq_true rfl) (Nat.le_of_ble_eq_true rfl) (fun v w ty H locs hp I => ?_) (fun E w ty H locs q ce hp _ _ _ _ => ?_)
  rotate_left
  · obtain ⟨_, _, _, _, _, _, _, _, _, _, _, _, _, _, _, _, _, _, _, _, _, _, _, _, _, _, _, _, _, _, _, _, _, _, _, _, _, _, _, _, _, _, _, _, _, _, _, _, _, _, _, _, _, _, _, _, _, _, _, _, _, _, _, _, _, _, _, _, _, _, _, _, _, hv, -⟩ := hp; cases hv
  obtain ⟨q2, q3, q4, q5, q6, q7, cA8, q9, q10, q11, q12, q13, q14, q15, q16, q17, q18, q19, q20, q21, q22, q23, cA24, q25, q26, q27, q28, q29, q30, q31, q32, q33, q34, q35, q36, q37, q38, q39, q40, q41, q42, q43, q44, q45, q46, q47, q48, cA49, cA50, q51, q52, q53, q54, q55, q56, q57, q58, q59, q60, q61, cA62, cA63, cA64, cA65, q66, q67, q68, q69, q70, q71, q72, cA73, q74, hv, rfl, rfl⟩ := hp
  cases hv
  have I : q_I D q_cl _ s [(q1, .inr (0, [.ref q2, .int 0, .int 0, .ref q3, .ref q4, .ref q5, .ref q6, .ref q7])), (q2, .inl (cA8, 32768, .inl (fun _ => 0))), (q5, .inr (2, [.ref q9, .int 0, .int (-1), .int 0, .int 0, .int 0, .int 0])), (q4, .inr (6, [.ref q10, .ref q11, .ref q12, .int 0, .ref q13, .ref q14, .int 0, .int 0, .ref q15, .ref q16, .ref q17, .int 0, .ref q18, .ref q19, .ref q20, .int 0, .ref q21, .int 0, .ref q22, .ref q23])), (q10, .inl (cA24, 32768, .inl (fun _ => 0))), (q11, .inr (7, [.ref q25, .ref q26, .ref q27, .ref q28, .ref q29, .int 0, .ref q30, .ref q31, .int 0, .ref q32, .ref q33, .ref q34, .ref q35, .ref q36, .ref q37, .ref q38, .int 0, .ref q39, .int 0, .int 0])), (q6, .inr (9, [.ref q9, .ref q5, .ref q40, .ref q41, .null, .ref q42, .ref q43, .ref q44, .int 0, .ref q45, .int 0, .int 0, .ref q46, .ref q47, .ref q48, .int 0, .int 0, .int 0])), (q43, .inl (cA49, 1821, .inl (fun _ => 0))), (q45, .inl (cA50, 16385, .inl (fun _ => 0))), (q9, .inr (1, [.null, .int 0, .ref q51, .ref q52, .ref q53, .int 0, .ref q54, .ref q55, .ref q56, .ref q57, .ref q58, .int 0, .ref q59, .ref q60, .ref q61, .int 0, .long 0, .long 0, .int 0, .int 0])), (q51, .inl (cA62, 32769, .inl (fun _ => 0))), (q52, .inl (cA63, 32769, .inl (fun _ => 0))), (q53, .inl (cA64, 32769, .inl (fun _ => 0))), (q54, .inl (cA65, 1024, .inl (fun _ => 0))), (q40, .inr (3, [.ref q9, .ref q5, .ref q66, .null, .null, .int 0, .int 0, .int 0, .int 0, .int 0, .int 0, .ref q67, .ref q68, .ref q69, .ref q70, .ref q71, .ref q72, .int 0])), (q67, .inl (cA73, 16385, .inl (fun _ => 0))), (q41, .inr (5, [.ref q9, .ref q5, .ref q40, .ref q74, .int 0, .int 0, .int 0, .long 0, .long 0]))] [(cA8, .byte), (cA24, .byte), (cA49, .int), (cA50, .int), (cA62, .int), (cA63, .int), (cA64, .int), (cA65, .int), (cA73, .int)] H _ := I
  refine W.eq (g2 := F0 m 7 ls [.ref q1]) rfl ?_
  refine lv_astore_n (lv' := [(1, .ref q1), (0, .ref b)]) hx hb d40_SignalTheatreLaw_law_7 rfl hl (by decide) rfl (fun ls hl => ?_)
  refine q_new t_Mod t_Mod_ok C I (ci := 13) rfl i_Mod m40_24 m40_13 m40_25 z_Mod_ok (Nat.le_of_ble_eq_true rfl) (Nat.le_of_ble_eq_true rfl) d40_SignalTheatreLaw_law_8 (fun q75 H I => ?_)
  have I : q_I D q_cl _ s [(q1, .inr (0, [.ref q2, .int 0, .int 0, .ref q3, .ref q4, .ref q5, .ref q6, .ref q7])), (q2, .inl (cA8, 32768, .inl (fun _ => 0))), (q5, .inr (2, [.ref q9, .int 0, .int (-1), .int 0, .int 0, .int 0, .int 0])), (q4, .inr (6, [.ref q10, .ref q11, .ref q12, .int 0, .ref q13, .ref q14, .int 0, .int 0, .ref q15, .ref q16, .ref q17, .int 0, .ref q18, .ref q19, .ref q20, .int 0, .ref q21, .int 0, .ref q22, .ref q23])), (q10, .inl (cA24, 32768, .inl (fun _ => 0))), (q11, .inr (7, [.ref q25, .ref q26, .ref q27, .ref q28, .ref q29, .int 0, .ref q30, .ref q31, .int 0, .ref q32, .ref q33, .ref q34, .ref q35, .ref q36, .ref q37, .ref q38, .int 0, .ref q39, .int 0, .int 0])), (q6, .inr (9, [.ref q9, .ref q5, .ref q40, .ref q41, .null, .ref q42, .ref q43, .ref q44, .int 0, .ref q45, .int 0, .int 0, .ref q46, .ref q47, .ref q48, .int 0, .int 0, .int 0])), (q43, .inl (cA49, 1821, .inl (fun _ => 0))), (q45, .inl (cA50, 16385, .inl (fun _ => 0))), (q9, .inr (1, [.null, .int 0, .ref q51, .ref q52, .ref q53, .int 0, .ref q54, .ref q55, .ref q56, .ref q57, .ref q58, .int 0, .ref q59, .ref q60, .ref q61, .int 0, .long 0, .long 0, .int 0, .int 0])), (q51, .inl (cA62, 32769, .inl (fun _ => 0))), (q52, .inl (cA63, 32769, .inl (fun _ => 0))), (q53, .inl (cA64, 32769, .inl (fun _ => 0))), (q54, .inl (cA65, 1024, .inl (fun _ => 0))), (q40, .inr (3, [.ref q9, .ref q5, .ref q66, .null, .null, .int 0, .int 0, .int 0, .int 0, .int 0, .int 0, .ref q67, .ref q68, .ref q69, .ref q70, .ref q71, .ref q72, .int 0])), (q67, .inl (cA73, 16385, .inl (fun _ => 0))), (q41, .inr (5, [.ref q9, .ref q5, .ref q40, .ref q74, .int 0, .int 0, .int 0, .long 0, .long 0])), (q75, .inr (13, [.null, .int 0, .int 0, .int 0, .int 0, .null, .null, .null, .null, .null, .null]))] [(cA8, .byte), (cA24, .byte), (cA49, .int), (cA50, .int), (cA62, .int), (cA63, .int), (cA64, .int), (cA65, .int), (cA73, .int)] H _ := I
  refine lv_dup hx hb d40_SignalTheatreLaw_law_11 rfl ?_
  refine q_go (wr := [(q1, .inr (0, [.ref q2, .int 0, .int 0, .ref q3, .ref q4, .ref q5, .ref q6, .ref q7])), (q2, .inl (cA8, 32768, .inl (fun _ => 0))), (q5, .inr (2, [.ref q9, .int 0, .int (-1), .int 0, .int 0, .int 0, .int 0])), (q4, .inr (6, [.ref q10, .ref q11, .ref q12, .int 0, .ref q13, .ref q14, .int 0, .int 0, .ref q15, .ref q16, .ref q17, .int 0, .ref q18, .ref q19, .ref q20, .int 0, .ref q21, .int 0, .ref q22, .ref q23])), (q10, .inl (cA24, 32768, .inl (fun _ => 0))), (q11, .inr (7, [.ref q25, .ref q26, .ref q27, .ref q28, .ref q29, .int 0, .ref q30, .ref q31, .int 0, .ref q32, .ref q33, .ref q34, .ref q35, .ref q36, .ref q37, .ref q38, .int 0, .ref q39, .int 0, .int 0])), (q6, .inr (9, [.ref q9, .ref q5, .ref q40, .ref q41, .null, .ref q42, .ref q43, .ref q44, .int 0, .ref q45, .int 0, .int 0, .ref q46, .ref q47, .ref q48, .int 0, .int 0, .int 0])), (q43, .inl (cA49, 1821, .inl (fun _ => 0))), (q45, .inl (cA50, 16385, .inl (fun _ => 0))), (q9, .inr (1, [.null, .int 0, .ref q51, .ref q52, .ref q53, .int 0, .ref q54, .ref q55, .ref q56, .ref q57, .ref q58, .int 0, .ref q59, .ref q60, .ref q61, .int 0, .long 0, .long 0, .int 0, .int 0])), (q51, .inl (cA62, 32769, .inl (fun _ => 0))), (q52, .inl (cA63, 32769, .inl (fun _ => 0))), (q53, .inl (cA64, 32769, .inl (fun _ => 0))), (q54, .inl (cA65, 1024, .inl (fun _ => 0))), (q40, .inr (3, [.ref q9, .ref q5, .ref q66, .null, .null, .int 0, .int 0, .int 0, .int 0, .int 0, .int 0, .ref q67, .ref q68, .ref q69, .ref q70, .ref q71, .ref q72, .int 0])), (q67, .inl (cA73, 16385, .inl (fun _ => 0))), (q41, .inr (5, [.ref q9, .ref q5, .ref q40, .ref q74, .int 0, .int 0, .int 0, .long 0, .long 0]))]) (tyr := [(cA8, .byte), (cA24, .byte), (cA49, .int), (cA50, .int), (cA62, .int), (cA63, .int), (cA64, .int), (cA65, .int), (cA73, .int)]) C I (q_siteI (As := []) (rest := [.ref q75]) C rfl m40_26 m40_28 m40_27 ⟨by decide, by decide⟩ (Eq.trans (b := some 0) (by decide +kernel) rfl) rfl d40_SignalTheatreLaw_law_12) (c_Mod_init l D hl9 q75) m40_27 m40_25 [17] [0, 1, 2, 3, 4, 5, 6, 7, 8, 9, 10, 11, 12, 13, 14, 15, 16] [] [0, 1, 2, 3, 4, 5, 6, 7, 8] rfl rfl (by decide) (by decide) (by decide) rfl rfl hl.1 d40_SignalTheatreLaw_law_12 (Nat.le_of_ble_eq_true rfl) (Nat.le_of_ble_eq_true rfl) (Nat.le_of_ble_eq_true rfl) (Nat.le_of_ble_eq_true rfl) (fun v w ty H locs hp I => ?_) (fun E w ty H locs q ce hp _ _ _ _ => ?_)
  rotate_left
  · obtain ⟨_, _, _, _, _, _, _, _, _, _, _, _, _, _, _, _, _, _, _, _, _, _, _, _, _, _, _, _, _, _, _, _, _, _, _, _, _, _, _, _, _, _, _, hv, -⟩ := hp; cases hv
  obtain ⟨q76, q77, q78, q79, q80, cA81, q82, q83, q84, q85, q86, q87, q88, q89, q90, q91, q92, q93, q94, q95, q96, q97, q98, q99, q100, cA101, cA102, cA103, vv104, vv105, vv106, vv107, vv108, vv109, t110mf, t111q_active, t112r_active, t113q_inactive, t114r_inactive, t115q_later, t116r_later, t117q_future, t118r_future, hv, rfl, rfl, hy119, hy120, hy121, hy122, hy123, hy124, hy125, hy126, hy127, hy128, hy129, hy130, hy131, hy132, hy133⟩ := hp
  cases hv
  have I : q_I D q_cl _ s [(q1, .inr (0, [.ref q2, .int 0, .int 0, .ref q3, .ref q4, .ref q5, .ref q6, .ref q7])), (q2, .inl (cA8, 32768, .inl (fun _ => 0))), (q5, .inr (2, [.ref q9, .int 0, .int (-1), .int 0, .int 0, .int 0, .int 0])), (q4, .inr (6, [.ref q10, .ref q11, .ref q12, .int 0, .ref q13, .ref q14, .int 0, .int 0, .ref q15, .ref q16, .ref q17, .int 0, .ref q18, .ref q19, .ref q20, .int 0, .ref q21, .int 0, .ref q22, .ref q23])), (q10, .inl (cA24, 32768, .inl (fun _ => 0))), (q11, .inr (7, [.ref q25, .ref q26, .ref q27, .ref q28, .ref q29, .int 0, .ref q30, .ref q31, .int 0, .ref q32, .ref q33, .ref q34, .ref q35, .ref q36, .ref q37, .ref q38, .int 0, .ref q39, .int 0, .int 0])), (q6, .inr (9, [.ref q9, .ref q5, .ref q40, .ref q41, .null, .ref q42, .ref q43, .ref q44, .int 0, .ref q45, .int 0, .int 0, .ref q46, .ref q47, .ref q48, .int 0, .int 0, .int 0])), (q43, .inl (cA49, 1821, .inl (fun _ => 0))), (q45, .inl (cA50, 16385, .inl (fun _ => 0))), (q9, .inr (1, [.null, .int 0, .ref q51, .ref q52, .ref q53, .int 0, .ref q54, .ref q55, .ref q56, .ref q57, .ref q58, .int 0, .ref q59, .ref q60, .ref q61, .int 0, .long 0, .long 0, .int 0, .int 0])), (q51, .inl (cA62, 32769, .inl (fun _ => 0))), (q52, .inl (cA63, 32769, .inl (fun _ => 0))), (q53, .inl (cA64, 32769, .inl (fun _ => 0))), (q54, .inl (cA65, 1024, .inl (fun _ => 0))), (q40, .inr (3, [.ref q9, .ref q5, .ref q66, .null, .null, .int 0, .int 0, .int 0, .int 0, .int 0, .int 0, .ref q67, .ref q68, .ref q69, .ref q70, .ref q71, .ref q72, .int 0])), (q67, .inl (cA73, 16385, .inl (fun _ => 0))), (q41, .inr (5, [.ref q9, .ref q5, .ref q40, .ref q74, .int 0, .int 0, .int 0, .long 0, .long 0])), (q75, .inr (13, [.ref q76, .int 0, .int 0, .int 0, .int (-1), .ref q77, .ref q78, .ref q77, .ref q78, .ref q79, .ref q80])), (q76, .inl (cA81, 32768, .inl (fun _ => 0))), (q78, .inr (14, [.ref q82, .ref q83, .ref q84, .ref q85, .ref q86, .ref q87, .ref q88, .ref q89, .ref q90, .ref q91, .int 0, .int 0, .int 0, .int 0, .ref q92])), (q82, .inr (15, [.ref q93, .int 0, .int 0, .int 0, .ref q94, .ref q95, .ref q96, .ref q97, .ref q98, .ref q99, .ref q100, .int 0, .long 0, .long 0, .long 0, .int 0, .int 0])), (q94, .inl (cA101, 32800, .inl (fun _ => 0))), (q95, .inl (cA102, 32800, .inl (fun _ => 0))), (q96, .inl (cA103, 32800, .inl (fun _ => 0))), (q92, .inr (16, [vv104, vv105, vv106, vv107, vv108, .int 0, .int 0, vv109])), (q79, .inr (17, t110mf)), (t111q_active, .inr (18, t112r_active)), (t113q_inactive, .inr (18, t114r_inactive)), (t115q_later, .inr (18, t116r_later)), (t117q_future, .inr (18, t118r_future))] [(cA8, .byte), (cA24, .byte), (cA49, .int), (cA50, .int), (cA62, .int), (cA63, .int), (cA64, .int), (cA65, .int), (cA73, .int), (cA81, .byte), (cA101, .int), (cA102, .int), (cA103, .int)] H _ := I
  refine W.eq (g2 := F0 m 15 ls [.ref q75]) rfl ?_
  refine lv_astore_n (lv' := [(2, .ref q75), (1, .ref q1), (0, .ref b)]) hx hb d40_SignalTheatreLaw_law_15 rfl hl (by decide) rfl (fun ls hl => ?_)
  refine lv_iconst (v := 1) hx hb d40_SignalTheatreLaw_law_16 (by decide) ?_
  refine q_newa (atype := .long) (1, .inr (.inl (fun _ => 0))) C I rfl m40_29 (fun _ => rfl) (by decide) (by decide) (by decide) (Nat.le_of_ble_eq_true rfl) (Nat.le_of_ble_eq_true rfl) d40_SignalTheatreLaw_law_17 (fun q134 cA135 H I => ?_)
  have I : q_I D q_cl _ s [(q1, .inr (0, [.ref q2, .int 0, .int 0, .ref q3, .ref q4, .ref q5, .ref q6, .ref q7])), (q2, .inl (cA8, 32768, .inl (fun _ => 0))), (q5, .inr (2, [.ref q9, .int 0, .int (-1), .int 0, .int 0, .int 0, .int 0])), (q4, .inr (6, [.ref q10, .ref q11, .ref q12, .int 0, .ref q13, .ref q14, .int 0, .int 0, .ref q15, .ref q16, .ref q17, .int 0, .ref q18, .ref q19, .ref q20, .int 0, .ref q21, .int 0, .ref q22, .ref q23])), (q10, .inl (cA24, 32768, .inl (fun _ => 0))), (q11, .inr (7, [.ref q25, .ref q26, .ref q27, .ref q28, .ref q29, .int 0, .ref q30, .ref q31, .int 0, .ref q32, .ref q33, .ref q34, .ref q35, .ref q36, .ref q37, .ref q38, .int 0, .ref q39, .int 0, .int 0])), (q6, .inr (9, [.ref q9, .ref q5, .ref q40, .ref q41, .null, .ref q42, .ref q43, .ref q44, .int 0, .ref q45, .int 0, .int 0, .ref q46, .ref q47, .ref q48, .int 0, .int 0, .int 0])), (q43, .inl (cA49, 1821, .inl (fun _ => 0))), (q45, .inl (cA50, 16385, .inl (fun _ => 0))), (q9, .inr (1, [.null, .int 0, .ref q51, .ref q52, .ref q53, .int 0, .ref q54, .ref q55, .ref q56, .ref q57, .ref q58, .int 0, .ref q59, .ref q60, .ref q61, .int 0, .long 0, .long 0, .int 0, .int 0])), (q51, .inl (cA62, 32769, .inl (fun _ => 0))), (q52, .inl (cA63, 32769, .inl (fun _ => 0))), (q53, .inl (cA64, 32769, .inl (fun _ => 0))), (q54, .inl (cA65, 1024, .inl (fun _ => 0))), (q40, .inr (3, [.ref q9, .ref q5, .ref q66, .null, .null, .int 0, .int 0, .int 0, .int 0, .int 0, .int 0, .ref q67, .ref q68, .ref q69, .ref q70, .ref q71, .ref q72, .int 0])), (q67, .inl (cA73, 16385, .inl (fun _ => 0))), (q41, .inr (5, [.ref q9, .ref q5, .ref q40, .ref q74, .int 0, .int 0, .int 0, .long 0, .long 0])), (q75, .inr (13, [.ref q76, .int 0, .int 0, .int 0, .int (-1), .ref q77, .ref q78, .ref q77, .ref q78, .ref q79, .ref q80])), (q76, .inl (cA81, 32768, .inl (fun _ => 0))), (q78, .inr (14, [.ref q82, .ref q83, .ref q84, .ref q85, .ref q86, .ref q87, .ref q88, .ref q89, .ref q90, .ref q91, .int 0, .int 0, .int 0, .int 0, .ref q92])), (q82, .inr (15, [.ref q93, .int 0, .int 0, .int 0, .ref q94, .ref q95, .ref q96, .ref q97, .ref q98, .ref q99, .ref q100, .int 0, .long 0, .long 0, .long 0, .int 0, .int 0])), (q94, .inl (cA101, 32800, .inl (fun _ => 0))), (q95, .inl (cA102, 32800, .inl (fun _ => 0))), (q96, .inl (cA103, 32800, .inl (fun _ => 0))), (q92, .inr (16, [vv104, vv105, vv106, vv107, vv108, .int 0, .int 0, vv109])), (q79, .inr (17, t110mf)), (t111q_active, .inr (18, t112r_active)), (t113q_inactive, .inr (18, t114r_inactive)), (t115q_later, .inr (18, t116r_later)), (t117q_future, .inr (18, t118r_future)), (q134, .inl (cA135, 1, .inr (.inl (fun _ => 0))))] [(cA8, .byte), (cA24, .byte), (cA49, .int), (cA50, .int), (cA62, .int), (cA63, .int), (cA64, .int), (cA65, .int), (cA73, .int), (cA81, .byte), (cA101, .int), (cA102, .int), (cA103, .int), (cA135, .long)] H _ := I
  refine lv_astore_n (lv' := [(3, .ref q134), (2, .ref q75), (1, .ref q1), (0, .ref b)]) hx hb d40_SignalTheatreLaw_law_19 rfl hl (by decide) rfl (fun ls hl => ?_)
  refine lv_iconst (v := 0) hx hb d40_SignalTheatreLaw_law_20 (by decide) ?_
  refine lv_istore (lv' := [(4, .int 0), (3, .ref q134), (2, .ref q75), (1, .ref q1), (0, .ref b)]) hx hb d40_SignalTheatreLaw_law_21 hl (by decide) rfl (fun ls hl => ?_)
  refine lv_iload hx hb d40_SignalTheatreLaw_law_23 (lv_at hl 0 rfl) ?_
  refine lv_aload_n hx hb d40_SignalTheatreLaw_law_25 rfl (lv_at hl 4 rfl) ?_
  refine va_slen hx hb hX hbl (Nat.not_le.mpr hbl) I.2.2.2 d40_SignalTheatreLaw_law_26 ?_
  refine lv_bipush (v := 7) hx hb d40_SignalTheatreLaw_law_27 (by decide) ?_
  refine lv_isub hx hb d40_SignalTheatreLaw_law_29 ?_
  by_cases hL7 : L = 7
  · subst hL7
    refine lv_icmp_gt (tgt := 874) hx hb d40_SignalTheatreLaw_law_30 (by decide) (fun h => absurd h (by decide)) (fun _ => ?_)
    have hend : ∀ (H : Heap) (locs : List Loc) (ls : Array Slot), q_I D q_cl (lw_A s) s [] [] H locs → lv_has ls 8 [(4, .int 0), (0, .ref b)] → W p l e room_1 s m #[Value.ref b] below meth c H locs 1300 5870000 (lw_Z below #[Value.ref b] s) (F0 m 868 ls []) := fun H locs ls I hl => lw_end C hr hX hbl I hl
    refine lv_aload_n hx hb d40_SignalTheatreLaw_law_33 rfl (lv_at hl 4 rfl) ?_
    refine lv_iload hx hb d40_SignalTheatreLaw_law_34 (lv_at hl 0 rfl) ?_
    refine va_sld hx hb hX hbl (Nat.not_le.mpr hbl) I.2.2.2 (i := 0) (by unfold vp_in; decide) d40_SignalTheatreLaw_law_36 ?_
    refine W.eq (g2 := F0 m 37 ls [.int (xs 0)]) rfl ?_
    refine lv_bipush (v := 15) hx hb d40_SignalTheatreLaw_law_37 (by decide) ?_
    refine lv_iand hx hb d40_SignalTheatreLaw_law_39 ?_
    refine lv_topi (fun v hv => ?_)
    by_cases cS : v.toInt < 0 ∨ 11 < v.toInt
    · refine lv_tableOut hx hb d40_SignalTheatreLaw_law_40 cS (by decide) (tgt := 868) ?_
      exact W.widen (k := 1300) (n := 5870000) (Nat.le_of_ble_eq_true rfl) (Nat.le_of_ble_eq_true rfl) (hend _ _ _ (q_pick I [] [] rfl (by decide) rfl) (lv_sub hl [0, 4] rfl))
    · have cS := q_upto11 (fun h => cS (Or.inl h)) (fun h => cS (Or.inr h))
      rcases cS with rfl | rfl | rfl | rfl | rfl | rfl | rfl | rfl | rfl | rfl | rfl | rfl
      · refine lv_tableIn (x := 0) hx hb d40_SignalTheatreLaw_law_40 (by decide) (by decide) rfl (by decide) (tgt := 104) ?_
        have I1 : q_I D q_cl (lw_A s) s [(q1, .inr (0, [.ref q2, .int 0, .int 0, .ref q3, .ref q4, .ref q5, .ref q6, .ref q7])), (q2, .inl (cA8, 32768, .inl (fun _ => 0))), (q134, .inl (cA135, 1, .inr (.inl (fun _ => 0)))), (q75, .inr (13, [.ref q76, .int 0, .int 0, .int 0, .int (-1), .ref q77, .ref q78, .ref q77, .ref q78, .ref q79, .ref q80])), (q76, .inl (cA81, 32768, .inl (fun _ => 0)))] [(cA8, .byte), (cA135, .long), (cA81, .byte)] _ _ := q_pick I [0, 1, 30, 17, 18] [0, 13, 9] rfl (by decide) rfl
        exact lc_feed hl9 C hX hbl  I1 (lv_sub hl [0, 1, 2, 3, 4] rfl) hend
      · refine lv_tableIn (x := 1) hx hb d40_SignalTheatreLaw_law_40 (by decide) (by decide) rfl (by decide) (tgt := 208) ?_
        have I1 : q_I D q_cl (lw_A s) s [(q1, .inr (0, [.ref q2, .int 0, .int 0, .ref q3, .ref q4, .ref q5, .ref q6, .ref q7])), (q134, .inl (cA135, 1, .inr (.inl (fun _ => 0)))), (q75, .inr (13, [.ref q76, .int 0, .int 0, .int 0, .int (-1), .ref q77, .ref q78, .ref q77, .ref q78, .ref q79, .ref q80]))] [(cA135, .long)] _ _ := q_pick I [0, 30, 17] [13] rfl (by decide) rfl
        exact lc_end hl9 C hX hbl  I1 (lv_sub hl [0, 1, 2, 3, 4] rfl) hend
      · refine lv_tableIn (x := 2) hx hb d40_SignalTheatreLaw_law_40 (by decide) (by decide) rfl (by decide) (tgt := 264) ?_
        have I1 : q_I D q_cl (lw_A s) s [(q1, .inr (0, [.ref q2, .int 0, .int 0, .ref q3, .ref q4, .ref q5, .ref q6, .ref q7])), (q2, .inl (cA8, 32768, .inl (fun _ => 0))), (q5, .inr (2, [.ref q9, .int 0, .int (-1), .int 0, .int 0, .int 0, .int 0])), (q4, .inr (6, [.ref q10, .ref q11, .ref q12, .int 0, .ref q13, .ref q14, .int 0, .int 0, .ref q15, .ref q16, .ref q17, .int 0, .ref q18, .ref q19, .ref q20, .int 0, .ref q21, .int 0, .ref q22, .ref q23])), (q10, .inl (cA24, 32768, .inl (fun _ => 0))), (q11, .inr (7, [.ref q25, .ref q26, .ref q27, .ref q28, .ref q29, .int 0, .ref q30, .ref q31, .int 0, .ref q32, .ref q33, .ref q34, .ref q35, .ref q36, .ref q37, .ref q38, .int 0, .ref q39, .int 0, .int 0])), (q6, .inr (9, [.ref q9, .ref q5, .ref q40, .ref q41, .null, .ref q42, .ref q43, .ref q44, .int 0, .ref q45, .int 0, .int 0, .ref q46, .ref q47, .ref q48, .int 0, .int 0, .int 0])), (q43, .inl (cA49, 1821, .inl (fun _ => 0))), (q45, .inl (cA50, 16385, .inl (fun _ => 0))), (q9, .inr (1, [.null, .int 0, .ref q51, .ref q52, .ref q53, .int 0, .ref q54, .ref q55, .ref q56, .ref q57, .ref q58, .int 0, .ref q59, .ref q60, .ref q61, .int 0, .long 0, .long 0, .int 0, .int 0])), (q51, .inl (cA62, 32769, .inl (fun _ => 0))), (q52, .inl (cA63, 32769, .inl (fun _ => 0))), (q53, .inl (cA64, 32769, .inl (fun _ => 0))), (q54, .inl (cA65, 1024, .inl (fun _ => 0))), (q40, .inr (3, [.ref q9, .ref q5, .ref q66, .null, .null, .int 0, .int 0, .int 0, .int 0, .int 0, .int 0, .ref q67, .ref q68, .ref q69, .ref q70, .ref q71, .ref q72, .int 0])), (q67, .inl (cA73, 16385, .inl (fun _ => 0))), (q41, .inr (5, [.ref q9, .ref q5, .ref q40, .ref q74, .int 0, .int 0, .int 0, .long 0, .long 0])), (q134, .inl (cA135, 1, .inr (.inl (fun _ => 0)))), (q75, .inr (13, [.ref q76, .int 0, .int 0, .int 0, .int (-1), .ref q77, .ref q78, .ref q77, .ref q78, .ref q79, .ref q80])), (q78, .inr (14, [.ref q82, .ref q83, .ref q84, .ref q85, .ref q86, .ref q87, .ref q88, .ref q89, .ref q90, .ref q91, .int 0, .int 0, .int 0, .int 0, .ref q92])), (q82, .inr (15, [.ref q93, .int 0, .int 0, .int 0, .ref q94, .ref q95, .ref q96, .ref q97, .ref q98, .ref q99, .ref q100, .int 0, .long 0, .long 0, .long 0, .int 0, .int 0])), (q94, .inl (cA101, 32800, .inl (fun _ => 0))), (q95, .inl (cA102, 32800, .inl (fun _ => 0))), (q96, .inl (cA103, 32800, .inl (fun _ => 0))), (q92, .inr (16, [vv104, vv105, vv106, vv107, vv108, .int 0, .int 0, vv109]))] [(cA8, .byte), (cA24, .byte), (cA49, .int), (cA50, .int), (cA62, .int), (cA63, .int), (cA64, .int), (cA65, .int), (cA73, .int), (cA135, .long), (cA101, .int), (cA102, .int), (cA103, .int)] _ _ := q_pick I [0, 1, 2, 3, 4, 5, 6, 7, 8, 9, 10, 11, 12, 13, 14, 15, 16, 30, 17, 19, 20, 21, 22, 23, 24] [0, 1, 2, 3, 4, 5, 6, 7, 8, 13, 10, 11, 12] rfl (by decide) rfl
        exact lc_build hl9 C hX hbl  I1 (lv_sub hl [0, 1, 2, 3, 4] rfl) hend
      · refine lv_tableIn (x := 3) hx hb d40_SignalTheatreLaw_law_40 (by decide) (by decide) rfl (by decide) (tgt := 308) ?_
        have I1 : q_I D q_cl (lw_A s) s [(q1, .inr (0, [.ref q2, .int 0, .int 0, .ref q3, .ref q4, .ref q5, .ref q6, .ref q7])), (q5, .inr (2, [.ref q9, .int 0, .int (-1), .int 0, .int 0, .int 0, .int 0])), (q134, .inl (cA135, 1, .inr (.inl (fun _ => 0)))), (q75, .inr (13, [.ref q76, .int 0, .int 0, .int 0, .int (-1), .ref q77, .ref q78, .ref q77, .ref q78, .ref q79, .ref q80]))] [(cA135, .long)] _ _ := q_pick I [0, 2, 30, 17] [13] rfl (by decide) rfl
        exact lc_fault hl9 C hX hbl  I1 (lv_sub hl [0, 1, 2, 3, 4] rfl) hend
      · refine lv_tableIn (x := 4) hx hb d40_SignalTheatreLaw_law_40 (by decide) (by decide) rfl (by decide) (tgt := 364) ?_
        have I1 : q_I D q_cl (lw_A s) s [(q1, .inr (0, [.ref q2, .int 0, .int 0, .ref q3, .ref q4, .ref q5, .ref q6, .ref q7])), (q134, .inl (cA135, 1, .inr (.inl (fun _ => 0)))), (q75, .inr (13, [.ref q76, .int 0, .int 0, .int 0, .int (-1), .ref q77, .ref q78, .ref q77, .ref q78, .ref q79, .ref q80])), (q79, .inr (17, t110mf))] [(cA135, .long)] _ _ := q_pick I [0, 30, 17, 25] [13] rfl (by decide) rfl
        exact lc_run hl9 C hX hbl hy119 I1 (lv_sub hl [0, 1, 2, 3, 4] rfl) hend
      · refine lv_tableIn (x := 5) hx hb d40_SignalTheatreLaw_law_40 (by decide) (by decide) rfl (by decide) (tgt := 420) ?_
        have I1 : q_I D q_cl (lw_A s) s [(q1, .inr (0, [.ref q2, .int 0, .int 0, .ref q3, .ref q4, .ref q5, .ref q6, .ref q7])), (q134, .inl (cA135, 1, .inr (.inl (fun _ => 0)))), (q75, .inr (13, [.ref q76, .int 0, .int 0, .int 0, .int (-1), .ref q77, .ref q78, .ref q77, .ref q78, .ref q79, .ref q80])), (q79, .inr (17, t110mf))] [(cA135, .long)] _ _ := q_pick I [0, 30, 17, 25] [13] rfl (by decide) rfl
        exact lc_value hl9 C hX hbl hy120 I1 (lv_sub hl [0, 1, 2, 3, 4] rfl) hend
      · refine lv_tableIn (x := 6) hx hb d40_SignalTheatreLaw_law_40 (by decide) (by decide) rfl (by decide) (tgt := 499) ?_
        have I1 : q_I D q_cl (lw_A s) s [(q1, .inr (0, [.ref q2, .int 0, .int 0, .ref q3, .ref q4, .ref q5, .ref q6, .ref q7])), (q75, .inr (13, [.ref q76, .int 0, .int 0, .int 0, .int (-1), .ref q77, .ref q78, .ref q77, .ref q78, .ref q79, .ref q80])), (q79, .inr (17, t110mf))] [] _ _ := q_pick I [0, 17, 25] [] rfl (by decide) rfl
        exact lc_set hl9 C hX hbl hy120 I1 (lv_sub hl [0, 1, 2, 3, 4] rfl) hend
      · refine lv_tableIn (x := 7) hx hb d40_SignalTheatreLaw_law_40 (by decide) (by decide) rfl (by decide) (tgt := 637) ?_
        have I1 : q_I D q_cl (lw_A s) s [(q1, .inr (0, [.ref q2, .int 0, .int 0, .ref q3, .ref q4, .ref q5, .ref q6, .ref q7])), (q134, .inl (cA135, 1, .inr (.inl (fun _ => 0)))), (q75, .inr (13, [.ref q76, .int 0, .int 0, .int 0, .int (-1), .ref q77, .ref q78, .ref q77, .ref q78, .ref q79, .ref q80])), (q79, .inr (17, t110mf))] [(cA135, .long)] _ _ := q_pick I [0, 30, 17, 25] [13] rfl (by decide) rfl
        exact lc_told hl9 C hX hbl hy120 I1 (lv_sub hl [0, 1, 2, 3, 4] rfl) hend
      · refine lv_tableIn (x := 8) hx hb d40_SignalTheatreLaw_law_40 (by decide) (by decide) rfl (by decide) (tgt := 705) ?_
        have I1 : q_I D q_cl (lw_A s) s [(q1, .inr (0, [.ref q2, .int 0, .int 0, .ref q3, .ref q4, .ref q5, .ref q6, .ref q7])), (q134, .inl (cA135, 1, .inr (.inl (fun _ => 0)))), (q75, .inr (13, [.ref q76, .int 0, .int 0, .int 0, .int (-1), .ref q77, .ref q78, .ref q77, .ref q78, .ref q79, .ref q80])), (q79, .inr (17, t110mf))] [(cA135, .long)] _ _ := q_pick I [0, 30, 17, 25] [13] rfl (by decide) rfl
        exact lc_letter hl9 C hX hbl hy120 I1 (lv_sub hl [0, 1, 2, 3, 4] rfl) hend
      · refine lv_tableIn (x := 9) hx hb d40_SignalTheatreLaw_law_40 (by decide) (by decide) rfl (by decide) (tgt := 773) ?_
        have I1 : q_I D q_cl (lw_A s) s [(q1, .inr (0, [.ref q2, .int 0, .int 0, .ref q3, .ref q4, .ref q5, .ref q6, .ref q7])), (q134, .inl (cA135, 1, .inr (.inl (fun _ => 0)))), (q75, .inr (13, [.ref q76, .int 0, .int 0, .int 0, .int (-1), .ref q77, .ref q78, .ref q77, .ref q78, .ref q79, .ref q80])), (q79, .inr (17, t110mf))] [(cA135, .long)] _ _ := q_pick I [0, 30, 17, 25] [13] rfl (by decide) rfl
        exact lc_log hl9 C hX hbl hy123 I1 (lv_sub hl [0, 1, 2, 3, 4] rfl) hend
      · refine lv_tableIn (x := 10) hx hb d40_SignalTheatreLaw_law_40 (by decide) (by decide) rfl (by decide) (tgt := 829) ?_
        have I1 : q_I D q_cl (lw_A s) s [(q1, .inr (0, [.ref q2, .int 0, .int 0, .ref q3, .ref q4, .ref q5, .ref q6, .ref q7])), (q75, .inr (13, [.ref q76, .int 0, .int 0, .int 0, .int (-1), .ref q77, .ref q78, .ref q77, .ref q78, .ref q79, .ref q80])), (q79, .inr (17, t110mf))] [] _ _ := q_pick I [0, 17, 25] [] rfl (by decide) rfl
        exact lc_time hl9 C hX hbl hy125 I1 (lv_sub hl [0, 1, 2, 3, 4] rfl) hend
      · refine lv_tableIn (x := 11) hx hb d40_SignalTheatreLaw_law_40 (by decide) (by decide) rfl (by decide) (tgt := 843) ?_
        have I1 : q_I D q_cl (lw_A s) s [(q1, .inr (0, [.ref q2, .int 0, .int 0, .ref q3, .ref q4, .ref q5, .ref q6, .ref q7])), (q75, .inr (13, [.ref q76, .int 0, .int 0, .int 0, .int (-1), .ref q77, .ref q78, .ref q77, .ref q78, .ref q79, .ref q80])), (q79, .inr (17, t110mf)), (t111q_active, .inr (18, t112r_active)), (t113q_inactive, .inr (18, t114r_inactive)), (t115q_later, .inr (18, t116r_later)), (t117q_future, .inr (18, t118r_future))] [] _ _ := q_pick I [0, 17, 25, 26, 27, 28, 29] [] rfl (by decide) rfl
        exact lc_count hl9 C hX hbl hy120 hy121 hy122 hy123 hy124 hy126 hy127 hy128 hy129 hy130 hy131 hy132 hy133 I1 (lv_sub hl [0, 1, 2, 3, 4] rfl) hend
  · refine lv_icmp_gt (tgt := 874) hx hb d40_SignalTheatreLaw_law_30 (by decide) (fun _ => ?_) (fun h => absurd (lw_short (by omega)) h)
    refine lv_iconst (v := 1) hx hb d40_SignalTheatreLaw_law_874 (by decide) ?_
    refine va_forget (fun q hq => I.2.2.2.2.2 q hq) ?_
    refine W.widen (k := 200844) (n := 8499706) (Nat.le_of_ble_eq_true rfl) (Nat.le_of_ble_eq_true rfl) ?_
    exact lw_ret hx hb hr C.2.2.2.2.2.2.2.2.1 d40_SignalTheatreLaw_law_875
set_option maxHeartbeats 4000000 in
theorem lw_walk (l : Launch) (hl9 : l.stackTraces = false) (b : Addr) (xs : List Int32) : MetFree l x (headSpec (Jvm.Cond.code x code maxLocals ret :: tables_1) room_1) (lw_P b xs) (fun _ _ _ _ _ => True) lw_Q := by
  refine MetFree.of_bodyS (code := code) (maxLocals := maxLocals) (ret := ret) (by decide) ?_ ?_
  · intro args s m h hn
    obtain ⟨meth, c, h1, h2, h3, h4, h5, h6, -, -⟩ := Cond.code_spec hn (atoms_spec (ws := Jvm.Cond.code x code maxLocals ret :: tables_1) h _ List.mem_cons_self)
    exact ⟨meth, c, h1, h2, h3, h4, h5, h6⟩
  · intro p e s m args below meth c s₁ B hml0 hP _
    obtain ⟨rfl, hx, hbd, hgv⟩ := hP
    obtain ⟨scr, harrAt, hlist, hof, hsmall⟩ := hx
    obtain ⟨hcb, hkn, -, -⟩ := State.arrayAt?_spec harrAt
    have hown : s.vm.findClass R_law = some m.cls := findClass_of_methodNamed B.named
    have hts0 : ∀ c ∈ (Jvm.Cond.code x code maxLocals ret :: tables_1), c.before #[Value.ref b] s = true := atoms_spec (ws := Jvm.Cond.code x code maxLocals ret :: tables_1) B.pre
    have hts : ∀ w ∈ lw_tbl, w.before #[Value.ref b] s = true := k2_hts_sels lw_privs (fun w hw => hts0 w (List.mem_cons_of_mem _ hw)) lw_privs_ok
    have hml : c.maxLocals = 8 := B.maxLocals_eq (hts0 _ List.mem_cons_self)
    have X₀ : Stand p l e room_1 s m #[Value.ref b] below meth c s₁ [] 0 0 := Stand.of_body B
    have hh0 : s₁.heap = s.heap := by rw [B.state]; rfl
    have hsz : scr.slots.size = xs.length := by rw [← Array.length_toList, hlist, List.length_map]
    have hval : ∀ j : Nat, j < xs.length → scr.slots[j]? = some (.int (xs.getD j 0)) := fun j hj => by
      rw [← Array.getElem?_toList, hlist]
      simp [hj]
    have hbl : b < s.heap.size := (Array.getElem?_eq_some_iff.mp hcb).1
    have hX : va_X b xs.length (fun j => xs.getD j 0) s s.heap := ⟨scr, hcb, hof, hkn, hsz, hval⟩
    have K : W p l e room_1 s m #[Value.ref b] below meth c s₁.heap [] 0 0 (lw_Z below #[Value.ref b] s) (entryFrame m ([Value.ref b] : List Value).toArray 8) := by
      rw [hh0]
      exact whole_start l hl9 hbd ⟨B.exec, B.bytes, B.returns, hml, hown, hts, hX, hbl, B.notSynchronized, hgv⟩
    obtain ⟨t, a1, o, b1, b2, b3⟩ := K s₁ rfl X₀
    exact ⟨t, o, a1, b1, b2, b3⟩
theorem lw_pre_spec {args : Array Value} {s : State} (h : (Jvm.Cond.and given_1 narrow_1).before args s = true) (hr : rest_1_c.before args s = true) : ∃ (b : Addr) (xs : List Int32), lw_P b xs args s := by
  have hs := flat_of_before _ h
  have hq := flat_of_before _ hr
  have hc : (Cond.count 1).before args s = true := hs _ (by decide +kernel)
  have harr : (Cond.arrayOf (.arg 0) .int).before args s = true := hs _ (by decide +kernel)
  have hle : (Cond.le (.length (.arg 0)) (.int 7)).before args s = true := hs _ (by decide +kernel)
  have hlen : (Cond.isInt (.length (.arg 0))).before args s = true := hq _ (by decide +kernel)
  have hall : (Cond.all (.arg 0) (.isInt (.elem (.arg 0) (.index 0)))).before args s = true := hq _ (by decide +kernel)
  obtain ⟨b, xs, hb, hx⟩ := State.ints_of_pre rfl harr hlen hall
  have hsm : xs.length < 2 ^ 31 := hx.choose_spec.2.2.2
  have hev : (Term.length (.arg 0)).eval args s none [] s = some (.int xs.length.toInt32) := hx.length_eval hb
  have hv := Cond.le_ints hev (show (Term.int 7).eval args s none [] s = some (.int 7) from rfl)
  have hd : xs.length.toInt32 ≤ 7 := by
    simpa [Cond.before, Cond.holds, hv] using hle
  have hN : xs.length ≤ 7 := (Int32.ofNat_le_ofNat hsm (by decide)).mp (show Int32.ofNat xs.length ≤ Int32.ofNat 7 from hd)
  exact ⟨b, xs, Cond.one_arg hc (show args[0]? = some (.ref b) from hb), hx, hN, h⟩
theorem lw_comes (l : Launch) (hl9 : l.stackTraces = false) : Comes l x (Jvm.Cond.code x code maxLocals ret :: tables_1) room_1 (fun tb e args s => Calls_1 tb e args s ∧ rest_1 tb e args s ∧ Pre_1 tb e args s)
    (fun _ _ args s o t => lw_Q args s o t) := by
  intro p e ha hc hk s m args below hf hfit hheap happ hpre
  obtain ⟨b, xs, hP⟩ := lw_pre_spec hpre.2.2 hpre.2.1
  obtain ⟨k, o, h1, h2, h3, hQ⟩ := lw_walk l hl9 b xs p e ha hc hk s m args below hf ((Spec.applies_iff_loose hf).mp happ).1 hP trivial
  exact ⟨k, o, h1, h2, h3, hQ⟩
theorem lw_frame {s t : State} {o : Outcome} {args : Array Value} (h : Framed s o t [] 200844 8499706) :
    Framed s o t (fieldLocs frame_1_writes args s ++ arrayLocs frame_1_arrays args s ++ staticLocs frame_1_statics s) 200844 8499706 := h
theorem lw_limb (L : Cond) (hL : ∀ (args : Array Value) (s t : State), L.after args s (.returned (some (.int 1))) t = true) :
    ArmFor flags0 classFile x code maxLocals ret World_1 tables_1 room_1 Calls_1 rest_1 Pre_1
      (fun tb e a s o t => postC L tb e a s o t ∧ Framed s o t (fieldLocs frame_1_writes a s ++ arrayLocs frame_1_arrays a s ++ staticLocs frame_1_statics s) 200844 8499706) := by
  intro l hfl _ _ p e ha hc hk s m args below hf hfit hheap happ hpre
  obtain ⟨k, o, h1, h2, h3, rfl, hF⟩ := lw_comes l (by show (!l.flags.contains Jvm.noTraceFlag) = false; rw [hfl]; decide +kernel) p e ha hc hk s m args below hf hfit hheap happ hpre
  exact ⟨k, _, h1, h2, h3, hL args s _, lw_frame hF⟩
theorem i_vc : Claimed_1_1 ∧ Claimed_1_2 := ⟨lw_limb limb_1_1 (fun args s t => by simp [limb_1_1, Cond.after, Cond.holds, Cond.value]), lw_limb limb_1_2 (fun args s t => Cond.after_iff.mpr (by
  first | (rw [show limb_1_2 = Cond.eq .result (.int 1) from rfl, Cond.eq_ints (x := 1) (y := 1) rfl rfl]; simp; done) | (simp [limb_1_2, Cond.value, Term.eval]; done)))⟩
