set_option maxRecDepth 20000 in
theorem m21_0 : (Cond.fieldLink "SignalTheatre" 10 "SignalTheatre" "input" "[B" : Cond) ∈ q_big := q_m4 (List.mem_of_getElem? (i := 91) rfl) rfl
set_option maxRecDepth 20000 in
theorem m21_1 : (Cond.fieldLink "SignalTheatre" 75 "SignalTheatre" "length" "I" : Cond) ∈ q_big := q_m4 (List.mem_of_getElem? (i := 92) rfl) rfl
set_option maxRecDepth 20000 in
theorem m21_2 : (Cond.constant "SignalTheatre" 9 (32768) : Cond) ∈ q_big := q_m1 (List.mem_of_getElem? (i := 49) rfl) rfl
set_option maxRecDepth 20000 in
theorem m21_3 : (Cond.methodLink "SignalTheatre" 82 ⟨"SignalTheatre", "append", "(I)V"⟩ : Cond) ∈ q_big := q_m4 (List.mem_of_getElem? (i := 203) rfl) rfl
set_option maxRecDepth 20000 in
theorem m21_4 : (Cond.code ⟨"SignalTheatre", "append", "(I)V"⟩ prog_1_method_3_code 3 none : Cond) ∈ q_big := q_m4 (List.mem_of_getElem? (i := 206) rfl) rfl
set_option maxRecDepth 20000 in
theorem m21_5 : (Cond.instanceMethod ⟨"SignalTheatre", "append", "(I)V"⟩ : Cond) ∈ q_big := q_m4 (List.mem_of_getElem? (i := 205) rfl) rfl
set_option maxRecDepth 20000 in
theorem m21_6 : (Cond.selects "SignalTheatre" ⟨"SignalTheatre", "append", "(I)V"⟩ ⟨"SignalTheatre", "append", "(I)V"⟩ : Cond) ∈ q_big := q_sel (q := (⟨"SignalTheatre", "append", "(I)V"⟩, 8)) (List.mem_of_getElem? (i := 0) rfl)
set_option maxRecDepth 20000 in
theorem m21_7 : (Cond.initialized "SignalTheatre" : Cond) ∈ q_big := q_m1 (List.mem_of_getElem? (i := 1) rfl) rfl
theorem d21_S_append_0 : decode prog_1_method_3_code 0 = .ok (.bipush 24, 2) := by decide +kernel
theorem d21_S_append_2 : decode prog_1_method_3_code 2 = .ok (.istore_n 2, 1) := by decide +kernel
theorem d21_S_append_3 : decode prog_1_method_3_code 3 = .ok (.iload_n 2, 1) := by decide +kernel
theorem d21_S_append_4 : decode prog_1_method_3_code 4 = .ok (.ifCond .lt 32, 3) := by decide +kernel
theorem d21_S_append_7 : decode prog_1_method_3_code 7 = .ok (.aload_n 0, 1) := by decide +kernel
theorem d21_S_append_8 : decode prog_1_method_3_code 8 = .ok (.getfield 10, 3) := by decide +kernel
theorem d21_S_append_11 : decode prog_1_method_3_code 11 = .ok (.aload_n 0, 1) := by decide +kernel
theorem d21_S_append_12 : decode prog_1_method_3_code 12 = .ok (.getfield 75, 3) := by decide +kernel
theorem d21_S_append_15 : decode prog_1_method_3_code 15 = .ok (.iload_n 1, 1) := by decide +kernel
theorem d21_S_append_16 : decode prog_1_method_3_code 16 = .ok (.iload_n 2, 1) := by decide +kernel
theorem d21_S_append_17 : decode prog_1_method_3_code 17 = .ok (.ishr, 1) := by decide +kernel
theorem d21_S_append_18 : decode prog_1_method_3_code 18 = .ok (.i2b, 1) := by decide +kernel
theorem d21_S_append_19 : decode prog_1_method_3_code 19 = .ok (.bastore, 1) := by decide +kernel
theorem d21_S_append_20 : decode prog_1_method_3_code 20 = .ok (.aload_n 0, 1) := by decide +kernel
theorem d21_S_append_21 : decode prog_1_method_3_code 21 = .ok (.dup, 1) := by decide +kernel
theorem d21_S_append_22 : decode prog_1_method_3_code 22 = .ok (.getfield 75, 3) := by decide +kernel
theorem d21_S_append_25 : decode prog_1_method_3_code 25 = .ok (.iconst 1, 1) := by decide +kernel
theorem d21_S_append_26 : decode prog_1_method_3_code 26 = .ok (.iadd, 1) := by decide +kernel
theorem d21_S_append_27 : decode prog_1_method_3_code 27 = .ok (.putfield 75, 3) := by decide +kernel
theorem d21_S_append_30 : decode prog_1_method_3_code 30 = .ok (.iinc 2 (-8), 3) := by decide +kernel
theorem d21_S_append_33 : decode prog_1_method_3_code 33 = .ok (.goto (-30), 3) := by decide +kernel
theorem d21_S_append_36 : decode prog_1_method_3_code 36 = .ok (.return_, 1) := by decide +kernel
theorem d21_S_feed_0 : decode prog_1_method_2_code 0 = .ok (.aload_n 0, 1) := by decide +kernel
theorem d21_S_feed_1 : decode prog_1_method_2_code 1 = .ok (.getfield 75, 3) := by decide +kernel
theorem d21_S_feed_4 : decode prog_1_method_2_code 4 = .ok (.bipush 20, 2) := by decide +kernel
theorem d21_S_feed_6 : decode prog_1_method_2_code 6 = .ok (.iadd, 1) := by decide +kernel
theorem d21_S_feed_7 : decode prog_1_method_2_code 7 = .ok (.ldc 9, 2) := by decide +kernel
theorem d21_S_feed_9 : decode prog_1_method_2_code 9 = .ok (.if_icmp .le 11, 3) := by decide +kernel
theorem d21_S_feed_20 : decode prog_1_method_2_code 20 = .ok (.aload_n 0, 1) := by decide +kernel
theorem d21_S_feed_21 : decode prog_1_method_2_code 21 = .ok (.iload_n 1, 1) := by decide +kernel
theorem d21_S_feed_22 : decode prog_1_method_2_code 22 = .ok (.invokevirtual 82, 3) := by decide +kernel
theorem d21_S_feed_25 : decode prog_1_method_2_code 25 = .ok (.aload_n 0, 1) := by decide +kernel
theorem d21_S_feed_26 : decode prog_1_method_2_code 26 = .ok (.iload_n 2, 1) := by decide +kernel
theorem d21_S_feed_27 : decode prog_1_method_2_code 27 = .ok (.invokevirtual 82, 3) := by decide +kernel
theorem d21_S_feed_30 : decode prog_1_method_2_code 30 = .ok (.aload_n 0, 1) := by decide +kernel
theorem d21_S_feed_31 : decode prog_1_method_2_code 31 = .ok (.iload_n 3, 1) := by decide +kernel
theorem d21_S_feed_32 : decode prog_1_method_2_code 32 = .ok (.invokevirtual 82, 3) := by decide +kernel
theorem d21_S_feed_35 : decode prog_1_method_2_code 35 = .ok (.aload_n 0, 1) := by decide +kernel
theorem d21_S_feed_36 : decode prog_1_method_2_code 36 = .ok (.iload 4, 2) := by decide +kernel
theorem d21_S_feed_38 : decode prog_1_method_2_code 38 = .ok (.invokevirtual 82, 3) := by decide +kernel
theorem d21_S_feed_41 : decode prog_1_method_2_code 41 = .ok (.aload_n 0, 1) := by decide +kernel
theorem d21_S_feed_42 : decode prog_1_method_2_code 42 = .ok (.iload 5, 2) := by decide +kernel
theorem d21_S_feed_44 : decode prog_1_method_2_code 44 = .ok (.invokevirtual 82, 3) := by decide +kernel
theorem d21_S_feed_47 : decode prog_1_method_2_code 47 = .ok (.aload_n 0, 1) := by decide +kernel
theorem d21_S_feed_48 : decode prog_1_method_2_code 48 = .ok (.getfield 75, 3) := by decide +kernel
theorem d21_S_feed_51 : decode prog_1_method_2_code 51 = .ok (.ireturn, 1) := by decide +kernel
set_option maxHeartbeats 4000000 in
set_option maxRecDepth 100000 in
/-- append(x): four bytes more -/
theorem c_S_append (l : Launch) (D : va_G) (h0 : Nat) (s_input : Nat) (s_circuit : Nat) (s_spare : Nat) (s_faults : Nat) (s_builder : Nat) (s_stage : Nat) (cI : ClassId) (g : Nat → Int32) (L : Nat) (hL : L + 4 ≤ 32768) (x : Int32) : q_Met l ⟨"SignalTheatre", "append", "(I)V"⟩ (Cond.code ⟨"SignalTheatre", "append", "(I)V"⟩ prog_1_method_3_code 3 none) { frames := 0, cells := 0, slots := 0, locals := 0 } D q_cl [.ref h0, .int x] [(h0, .inr (0, [.ref s_input, .int (nI L), .int 0, .ref s_circuit, .ref s_spare, .ref s_faults, .ref s_builder, .ref s_stage])), (s_input, .inl (cI, 32768, .inl g))] [(cI, .byte)] (fun r w ty => ∃ g9 : Nat → Int32, r = .inl none ∧ w = [(h0, .inr (0, [.ref s_input, .int (nI (L + 4)), .int 0, .ref s_circuit, .ref s_spare, .ref s_faults, .ref s_builder, .ref s_stage])), (s_input, .inl (cI, 32768, .inl g9))] ∧ ty = [(cI, .byte)]) := by
  refine q_ofW (by decide) ?_
  intro p e s m below meth c C hr hin hex I
  have hx := C.1
  have hb := C.2.1
  have hl := lv_entry ([.ref h0, .int x]) (n := 3) (Nat.le_of_ble_eq_true rfl)
  rw [lg_entry_eq]
  generalize (lg_sl ([.ref h0, .int x]) ++ List.replicate (3 - (lg_sl ([.ref h0, .int x])).length) Slot.unset).toArray = ls at hl ⊢
  have hl : lv_has ls 3 [(0, .ref h0), (1, .int x)] := hl
  refine lv_bipush (v := 24) hx hb d21_S_append_0 (by decide) ?_
  refine lv_istore_n (lv' := [(2, .int 24), (0, .ref h0), (1, .int x)]) hx hb d21_S_append_2 rfl hl (by decide) rfl (fun ls hl => ?_)
  refine lv_iload_n hx hb d21_S_append_3 rfl (lv_at hl 0 rfl) ?_
  refine lv_if_lt (tgt := 36) hx hb d21_S_append_4 (by decide) (fun h => absurd h (by decide)) (fun _ => ?_)
  refine lv_aload_n hx hb d21_S_append_7 rfl (lv_at hl 1 rfl) ?_
  refine q_get C I 0 0 rfl rfl i_S (by decide) m21_0 rfl d21_S_append_8 ?_
  refine lv_aload_n hx hb d21_S_append_11 rfl (lv_at hl 1 rfl) ?_
  refine q_get C I 0 1 rfl rfl i_S (by decide) m21_1 rfl d21_S_append_12 ?_
  refine lv_iload_n hx hb d21_S_append_15 rfl (lv_at hl 2 rfl) ?_
  refine lv_iload_n hx hb d21_S_append_16 rfl (lv_at hl 0 rfl) ?_
  refine lv_ishr hx hb d21_S_append_17 ?_
  refine lv_topi (fun z1 _ => ?_)
  refine lv_i2b hx hb d21_S_append_18 rfl ?_
  refine lv_topi (fun z2 _ => ?_)
  refine q_bastX C I 1 0 rfl rfl (vp_in_nI (by omega) (by decide)) d21_S_append_19 (fun g3 H locs I => ?_)
  have I : q_I D q_cl _ s [(h0, .inr (0, [.ref s_input, .int (nI L), .int 0, .ref s_circuit, .ref s_spare, .ref s_faults, .ref s_builder, .ref s_stage])), (s_input, .inl (cI, 32768, .inl g3))] [(cI, .byte)] H _ := I
  refine lv_aload_n hx hb d21_S_append_20 rfl (lv_at hl 1 rfl) ?_
  refine lv_dup hx hb d21_S_append_21 rfl ?_
  refine q_get C I 0 1 rfl rfl i_S (by decide) m21_1 rfl d21_S_append_22 ?_
  refine lv_iconst (v := 1) hx hb d21_S_append_25 (by decide) ?_
  refine lv_iadd hx hb d21_S_append_26 ?_
  refine W.eq (g2 := F0 m 27 ls [.int (nI (L + 1)), .ref h0]) (congrArg (fun z => F0 m 27 ls (.int z :: [.ref h0])) (nI_1 L)) ?_
  refine q_put t_S t_S_ok n_S C I 0 1 rfl rfl i_S (by decide) m21_1 rfl rfl rfl (Nat.le_of_ble_eq_true rfl) d21_S_append_27 (fun H locs I => ?_)
  have I : q_I D q_cl _ s [(h0, .inr (0, [.ref s_input, .int (nI (L + 1)), .int 0, .ref s_circuit, .ref s_spare, .ref s_faults, .ref s_builder, .ref s_stage])), (s_input, .inl (cI, 32768, .inl g3))] [(cI, .byte)] H _ := I
  refine lv_iinc (v := 16) (lv' := [(2, .int 16), (0, .ref h0), (1, .int x)]) hx hb d21_S_append_30 hl (k := 0) rfl (by decide) (by decide) rfl (fun ls hl => ?_)
  refine lv_goto (tgt := 3) hx hb d21_S_append_33 (by decide) ?_
  refine lv_iload_n hx hb d21_S_append_3 rfl (lv_at hl 0 rfl) ?_
  refine lv_if_lt (tgt := 36) hx hb d21_S_append_4 (by decide) (fun h => absurd h (by decide)) (fun _ => ?_)
  refine lv_aload_n hx hb d21_S_append_7 rfl (lv_at hl 1 rfl) ?_
  refine q_get C I 0 0 rfl rfl i_S (by decide) m21_0 rfl d21_S_append_8 ?_
  refine lv_aload_n hx hb d21_S_append_11 rfl (lv_at hl 1 rfl) ?_
  refine q_get C I 0 1 rfl rfl i_S (by decide) m21_1 rfl d21_S_append_12 ?_
  refine lv_iload_n hx hb d21_S_append_15 rfl (lv_at hl 2 rfl) ?_
  refine lv_iload_n hx hb d21_S_append_16 rfl (lv_at hl 0 rfl) ?_
  refine lv_ishr hx hb d21_S_append_17 ?_
  refine lv_topi (fun z4 _ => ?_)
  refine lv_i2b hx hb d21_S_append_18 rfl ?_
  refine lv_topi (fun z5 _ => ?_)
  refine q_bastX C I 1 0 rfl rfl (vp_in_nI (by omega) (by decide)) d21_S_append_19 (fun g6 H locs I => ?_)
  have I : q_I D q_cl _ s [(h0, .inr (0, [.ref s_input, .int (nI (L + 1)), .int 0, .ref s_circuit, .ref s_spare, .ref s_faults, .ref s_builder, .ref s_stage])), (s_input, .inl (cI, 32768, .inl g6))] [(cI, .byte)] H _ := I
  refine lv_aload_n hx hb d21_S_append_20 rfl (lv_at hl 1 rfl) ?_
  refine lv_dup hx hb d21_S_append_21 rfl ?_
  refine q_get C I 0 1 rfl rfl i_S (by decide) m21_1 rfl d21_S_append_22 ?_
  refine lv_iconst (v := 1) hx hb d21_S_append_25 (by decide) ?_
  refine lv_iadd hx hb d21_S_append_26 ?_
  refine W.eq (g2 := F0 m 27 ls [.int (nI (L + 2)), .ref h0]) (congrArg (fun z => F0 m 27 ls (.int z :: [.ref h0])) (nI_1 (L + 1))) ?_
  refine q_put t_S t_S_ok n_S C I 0 1 rfl rfl i_S (by decide) m21_1 rfl rfl rfl (Nat.le_of_ble_eq_true rfl) d21_S_append_27 (fun H locs I => ?_)
  have I : q_I D q_cl _ s [(h0, .inr (0, [.ref s_input, .int (nI (L + 2)), .int 0, .ref s_circuit, .ref s_spare, .ref s_faults, .ref s_builder, .ref s_stage])), (s_input, .inl (cI, 32768, .inl g6))] [(cI, .byte)] H _ := I
  refine lv_iinc (v := 8) (lv' := [(2, .int 8), (0, .ref h0), (1, .int x)]) hx hb d21_S_append_30 hl (k := 0) rfl (by decide) (by decide) rfl (fun ls hl => ?_)
  refine lv_goto (tgt := 3) hx hb d21_S_append_33 (by decide) ?_
  refine lv_iload_n hx hb d21_S_append_3 rfl (lv_at hl 0 rfl) ?_
  refine lv_if_lt (tgt := 36) hx hb d21_S_append_4 (by decide) (fun h => absurd h (by decide)) (fun _ => ?_)
  refine lv_aload_n hx hb d21_S_append_7 rfl (lv_at hl 1 rfl) ?_
  refine q_get C I 0 0 rfl rfl i_S (by decide) m21_0 rfl d21_S_append_8 ?_
  refine lv_aload_n hx hb d21_S_append_11 rfl (lv_at hl 1 rfl) ?_
  refine q_get C I 0 1 rfl rfl i_S (by decide) m21_1 rfl d21_S_append_12 ?_
  refine lv_iload_n hx hb d21_S_append_15 rfl (lv_at hl 2 rfl) ?_
  refine lv_iload_n hx hb d21_S_append_16 rfl (lv_at hl 0 rfl) ?_
  refine lv_ishr hx hb d21_S_append_17 ?_
  refine lv_topi (fun z7 _ => ?_)
  refine lv_i2b hx hb d21_S_append_18 rfl ?_
  refine lv_topi (fun z8 _ => ?_)
  refine q_bastX C I 1 0 rfl rfl (vp_in_nI (by omega) (by decide)) d21_S_append_19 (fun g9 H locs I => ?_)
  have I : q_I D q_cl _ s [(h0, .inr (0, [.ref s_input, .int (nI (L + 2)), .int 0, .ref s_circuit, .ref s_spare, .ref s_faults, .ref s_builder, .ref s_stage])), (s_input, .inl (cI, 32768, .inl g9))] [(cI, .byte)] H _ := I
  refine lv_aload_n hx hb d21_S_append_20 rfl (lv_at hl 1 rfl) ?_
  refine lv_dup hx hb d21_S_append_21 rfl ?_
  refine q_get C I 0 1 rfl rfl i_S (by decide) m21_1 rfl d21_S_append_22 ?_
  refine lv_iconst (v := 1) hx hb d21_S_append_25 (by decide) ?_
  refine lv_iadd hx hb d21_S_append_26 ?_
  refine W.eq (g2 := F0 m 27 ls [.int (nI (L + 3)), .ref h0]) (congrArg (fun z => F0 m 27 ls (.int z :: [.ref h0])) (nI_1 (L + 2))) ?_
  refine q_put t_S t_S_ok n_S C I 0 1 rfl rfl i_S (by decide) m21_1 rfl rfl rfl (Nat.le_of_ble_eq_true rfl) d21_S_append_27 (fun H locs I => ?_)
  have I : q_I D q_cl _ s [(h0, .inr (0, [.ref s_input, .int (nI (L + 3)), .int 0, .ref s_circuit, .ref s_spare, .ref s_faults, .ref s_builder, .ref s_stage])), (s_input, .inl (cI, 32768, .inl g9))] [(cI, .byte)] H _ := I
  refine lv_iinc (v := 0) (lv' := [(2, .int 0), (0, .ref h0), (1, .int x)]) hx hb d21_S_append_30 hl (k := 0) rfl (by decide) (by decide) rfl (fun ls hl => ?_)
  refine lv_goto (tgt := 3) hx hb d21_S_append_33 (by decide) ?_
  refine lv_iload_n hx hb d21_S_append_3 rfl (lv_at hl 0 rfl) ?_
  refine lv_if_lt (tgt := 36) hx hb d21_S_append_4 (by decide) (fun h => absurd h (by decide)) (fun _ => ?_)
  refine lv_aload_n hx hb d21_S_append_7 rfl (lv_at hl 1 rfl) ?_
  refine q_get C I 0 0 rfl rfl i_S (by decide) m21_0 rfl d21_S_append_8 ?_
  refine lv_aload_n hx hb d21_S_append_11 rfl (lv_at hl 1 rfl) ?_
  refine q_get C I 0 1 rfl rfl i_S (by decide) m21_1 rfl d21_S_append_12 ?_
  refine lv_iload_n hx hb d21_S_append_15 rfl (lv_at hl 2 rfl) ?_
  refine lv_iload_n hx hb d21_S_append_16 rfl (lv_at hl 0 rfl) ?_
  refine lv_ishr hx hb d21_S_append_17 ?_
  refine lv_topi (fun z10 _ => ?_)
  refine lv_i2b hx hb d21_S_append_18 rfl ?_
  refine lv_topi (fun z11 _ => ?_)
  refine q_bastX C I 1 0 rfl rfl (vp_in_nI (by omega) (by decide)) d21_S_append_19 (fun g12 H locs I => ?_)
  have I : q_I D q_cl _ s [(h0, .inr (0, [.ref s_input, .int (nI (L + 3)), .int 0, .ref s_circuit, .ref s_spare, .ref s_faults, .ref s_builder, .ref s_stage])), (s_input, .inl (cI, 32768, .inl g12))] [(cI, .byte)] H _ := I
  refine lv_aload_n hx hb d21_S_append_20 rfl (lv_at hl 1 rfl) ?_
  refine lv_dup hx hb d21_S_append_21 rfl ?_
  refine q_get C I 0 1 rfl rfl i_S (by decide) m21_1 rfl d21_S_append_22 ?_
  refine lv_iconst (v := 1) hx hb d21_S_append_25 (by decide) ?_
  refine lv_iadd hx hb d21_S_append_26 ?_
  refine W.eq (g2 := F0 m 27 ls [.int (nI (L + 4)), .ref h0]) (congrArg (fun z => F0 m 27 ls (.int z :: [.ref h0])) (nI_1 (L + 3))) ?_
  refine q_put t_S t_S_ok n_S C I 0 1 rfl rfl i_S (by decide) m21_1 rfl rfl rfl (Nat.le_of_ble_eq_true rfl) d21_S_append_27 (fun H locs I => ?_)
  have I : q_I D q_cl _ s [(h0, .inr (0, [.ref s_input, .int (nI (L + 4)), .int 0, .ref s_circuit, .ref s_spare, .ref s_faults, .ref s_builder, .ref s_stage])), (s_input, .inl (cI, 32768, .inl g12))] [(cI, .byte)] H _ := I
  refine lv_iinc (v := -8) (lv' := [(2, .int (-8)), (0, .ref h0), (1, .int x)]) hx hb d21_S_append_30 hl (k := 0) rfl (by decide) (by decide) rfl (fun ls hl => ?_)
  refine lv_goto (tgt := 3) hx hb d21_S_append_33 (by decide) ?_
  refine lv_iload_n hx hb d21_S_append_3 rfl (lv_at hl 0 rfl) ?_
  refine lv_if_lt (tgt := 36) hx hb d21_S_append_4 (by decide) (fun _ => ?_) (fun h => absurd h (by decide))
  have I : q_I D q_cl _ s [(h0, .inr (0, [.ref s_input, .int (nI (L + 4)), .int 0, .ref s_circuit, .ref s_spare, .ref s_faults, .ref s_builder, .ref s_stage])), (s_input, .inl (cI, 32768, .inl g12))] [(cI, .byte)] _ _ := q_pick I [0, 1] [0] rfl (by decide) rfl
  exact q_vret C hr I ⟨g12, rfl, rfl, rfl⟩ (Nat.le_of_ble_eq_true rfl) (Nat.le_of_ble_eq_true rfl) d21_S_append_36
set_option maxHeartbeats 4000000 in
set_option maxRecDepth 100000 in
/-- feed(..) on a fresh object -/
theorem c_S_feed (l : Launch) (D : va_G) (h0 : Nat) (s_input : Nat) (s_circuit : Nat) (s_spare : Nat) (s_faults : Nat) (s_builder : Nat) (s_stage : Nat) (cI : ClassId) (g : Nat → Int32) (x1 : Int32) (x2 : Int32) (x3 : Int32) (x4 : Int32) (x5 : Int32) : q_Met l ⟨"SignalTheatre", "feed", "(IIIII)I"⟩ (Cond.code ⟨"SignalTheatre", "feed", "(IIIII)I"⟩ prog_1_method_2_code 6 (some .int)) { frames := 1, cells := 0, slots := 0, locals := 14 } D q_cl [.ref h0, .int x1, .int x2, .int x3, .int x4, .int x5] [(h0, .inr (0, [.ref s_input, .int 0, .int 0, .ref s_circuit, .ref s_spare, .ref s_faults, .ref s_builder, .ref s_stage])), (s_input, .inl (cI, 32768, .inl g))] [(cI, .byte)] (fun r w ty => w = [] ∧ ty = [] ∧ r = Sum.inl (some (.int (nI 20)))) := by
  refine q_ofW (by decide) ?_
  intro p e s m below meth c C hr hin hex I
  have hx := C.1
  have hb := C.2.1
  have hl := lv_entry ([.ref h0, .int x1, .int x2, .int x3, .int x4, .int x5]) (n := 6) (Nat.le_of_ble_eq_true rfl)
  rw [lg_entry_eq]
  generalize (lg_sl ([.ref h0, .int x1, .int x2, .int x3, .int x4, .int x5]) ++ List.replicate (6 - (lg_sl ([.ref h0, .int x1, .int x2, .int x3, .int x4, .int x5])).length) Slot.unset).toArray = ls at hl ⊢
  have hl : lv_has ls 6 [(0, .ref h0), (1, .int x1), (2, .int x2), (3, .int x3), (4, .int x4), (5, .int x5)] := hl
  refine lv_aload_n hx hb d21_S_feed_0 rfl (lv_at hl 0 rfl) ?_
  refine q_get C I 0 1 rfl rfl i_S (by decide) m21_1 rfl d21_S_feed_1 ?_
  refine lv_bipush (v := 20) hx hb d21_S_feed_4 (by decide) ?_
  refine lv_iadd hx hb d21_S_feed_6 ?_
  refine lv_ldc hx hb C.2.2.2.1 (C.2.2.2.2.1 _ m21_2) d21_S_feed_7 ?_
  refine lv_icmp_le (tgt := 20) hx hb d21_S_feed_9 (by decide) (fun _ => ?_) (fun h => absurd h (by decide))
  have I : q_I D q_cl _ s [(h0, .inr (0, [.ref s_input, .int (nI 0), .int 0, .ref s_circuit, .ref s_spare, .ref s_faults, .ref s_builder, .ref s_stage])), (s_input, .inl (cI, 32768, .inl g))] [(cI, .byte)] s.heap _ := I
  refine lv_aload_n hx hb d21_S_feed_20 rfl (lv_at hl 0 rfl) ?_
  refine lv_iload_n hx hb d21_S_feed_21 rfl (lv_at hl 1 rfl) ?_
  refine q_go (wr := []) (tyr := []) C I (q_siteV (As := [.int x1]) (rest := []) (q0 := 0) C I rfl rfl m21_3 m21_5 m21_6 m21_4 ⟨by decide, by decide⟩ (Eq.trans (b := some 1) (by decide +kernel) rfl) rfl d21_S_feed_22) (c_S_append l D h0 s_input s_circuit s_spare s_faults s_builder s_stage cI (g) 0 (by decide) x1) m21_4 m21_7 [0, 1] [] [0] [] rfl rfl (by decide) (by decide) (by decide) rfl rfl hl.1 d21_S_feed_22 (Nat.le_of_ble_eq_true rfl) (Nat.le_of_ble_eq_true rfl) (Nat.le_of_ble_eq_true rfl) (Nat.le_of_ble_eq_true rfl) (fun v w ty H locs hp I => ?_) (fun E w ty H locs q ce hp _ _ _ _ => ?_)
  rotate_left
  · obtain ⟨_, hv, -⟩ := hp; cases hv
  obtain ⟨g1, hv, rfl, rfl⟩ := hp
  cases hv
  have I : q_I D q_cl _ s [(h0, .inr (0, [.ref s_input, .int (nI 4), .int 0, .ref s_circuit, .ref s_spare, .ref s_faults, .ref s_builder, .ref s_stage])), (s_input, .inl (cI, 32768, .inl g1))] [(cI, .byte)] H _ := I
  refine W.eq (g2 := F0 m 25 ls []) rfl ?_
  refine lv_aload_n hx hb d21_S_feed_25 rfl (lv_at hl 0 rfl) ?_
  refine lv_iload_n hx hb d21_S_feed_26 rfl (lv_at hl 2 rfl) ?_
  refine q_go (wr := []) (tyr := []) C I (q_siteV (As := [.int x2]) (rest := []) (q0 := 0) C I rfl rfl m21_3 m21_5 m21_6 m21_4 ⟨by decide, by decide⟩ (Eq.trans (b := some 1) (by decide +kernel) rfl) rfl d21_S_feed_27) (c_S_append l D h0 s_input s_circuit s_spare s_faults s_builder s_stage cI (g1) 4 (by decide) x2) m21_4 m21_7 [0, 1] [] [0] [] rfl rfl (by decide) (by decide) (by decide) rfl rfl hl.1 d21_S_feed_27 (Nat.le_of_ble_eq_true rfl) (Nat.le_of_ble_eq_true rfl) (Nat.le_of_ble_eq_true rfl) (Nat.le_of_ble_eq_true rfl) (fun v w ty H locs hp I => ?_) (fun E w ty H locs q ce hp _ _ _ _ => ?_)
  rotate_left
  · obtain ⟨_, hv, -⟩ := hp; cases hv
  obtain ⟨g2, hv, rfl, rfl⟩ := hp
  cases hv
  have I : q_I D q_cl _ s [(h0, .inr (0, [.ref s_input, .int (nI 8), .int 0, .ref s_circuit, .ref s_spare, .ref s_faults, .ref s_builder, .ref s_stage])), (s_input, .inl (cI, 32768, .inl g2))] [(cI, .byte)] H _ := I
  refine W.eq (g2 := F0 m 30 ls []) rfl ?_
  refine lv_aload_n hx hb d21_S_feed_30 rfl (lv_at hl 0 rfl) ?_
  refine lv_iload_n hx hb d21_S_feed_31 rfl (lv_at hl 3 rfl) ?_
  refine q_go (wr := []) (tyr := []) C I (q_siteV (As := [.int x3]) (rest := []) (q0 := 0) C I rfl rfl m21_3 m21_5 m21_6 m21_4 ⟨by decide, by decide⟩ (Eq.trans (b := some 1) (by decide +kernel) rfl) rfl d21_S_feed_32) (c_S_append l D h0 s_input s_circuit s_spare s_faults s_builder s_stage cI (g2) 8 (by decide) x3) m21_4 m21_7 [0, 1] [] [0] [] rfl rfl (by decide) (by decide) (by decide) rfl rfl hl.1 d21_S_feed_32 (Nat.le_of_ble_eq_true rfl) (Nat.le_of_ble_eq_true rfl) (Nat.le_of_ble_eq_true rfl) (Nat.le_of_ble_eq_true rfl) (fun v w ty H locs hp I => ?_) (fun E w ty H locs q ce hp _ _ _ _ => ?_)
  rotate_left
  · obtain ⟨_, hv, -⟩ := hp; cases hv
  obtain ⟨g3, hv, rfl, rfl⟩ := hp
  cases hv
  have I : q_I D q_cl _ s [(h0, .inr (0, [.ref s_input, .int (nI 12), .int 0, .ref s_circuit, .ref s_spare, .ref s_faults, .ref s_builder, .ref s_stage])), (s_input, .inl (cI, 32768, .inl g3))] [(cI, .byte)] H _ := I
  refine W.eq (g2 := F0 m 35 ls []) rfl ?_
  refine lv_aload_n hx hb d21_S_feed_35 rfl (lv_at hl 0 rfl) ?_
  refine lv_iload hx hb d21_S_feed_36 (lv_at hl 4 rfl) ?_
  refine q_go (wr := []) (tyr := []) C I (q_siteV (As := [.int x4]) (rest := []) (q0 := 0) C I rfl rfl m21_3 m21_5 m21_6 m21_4 ⟨by decide, by decide⟩ (Eq.trans (b := some 1) (by decide +kernel) rfl) rfl d21_S_feed_38) (c_S_append l D h0 s_input s_circuit s_spare s_faults s_builder s_stage cI (g3) 12 (by decide) x4) m21_4 m21_7 [0, 1] [] [0] [] rfl rfl (by decide) (by decide) (by decide) rfl rfl hl.1 d21_S_feed_38 (Nat.le_of_ble_eq_true rfl) (Nat.le_of_ble_eq_true rfl) (Nat.le_of_ble_eq_true rfl) (Nat.le_of_ble_eq_true rfl) (fun v w ty H locs hp I => ?_) (fun E w ty H locs q ce hp _ _ _ _ => ?_)
  rotate_left
  · obtain ⟨_, hv, -⟩ := hp; cases hv
  obtain ⟨g4, hv, rfl, rfl⟩ := hp
  cases hv
  have I : q_I D q_cl _ s [(h0, .inr (0, [.ref s_input, .int (nI 16), .int 0, .ref s_circuit, .ref s_spare, .ref s_faults, .ref s_builder, .ref s_stage])), (s_input, .inl (cI, 32768, .inl g4))] [(cI, .byte)] H _ := I
  refine W.eq (g2 := F0 m 41 ls []) rfl ?_
  refine lv_aload_n hx hb d21_S_feed_41 rfl (lv_at hl 0 rfl) ?_
  refine lv_iload hx hb d21_S_feed_42 (lv_at hl 5 rfl) ?_
  refine q_go (wr := []) (tyr := []) C I (q_siteV (As := [.int x5]) (rest := []) (q0 := 0) C I rfl rfl m21_3 m21_5 m21_6 m21_4 ⟨by decide, by decide⟩ (Eq.trans (b := some 1) (by decide +kernel) rfl) rfl d21_S_feed_44) (c_S_append l D h0 s_input s_circuit s_spare s_faults s_builder s_stage cI (g4) 16 (by decide) x5) m21_4 m21_7 [0, 1] [] [0] [] rfl rfl (by decide) (by decide) (by decide) rfl rfl hl.1 d21_S_feed_44 (Nat.le_of_ble_eq_true rfl) (Nat.le_of_ble_eq_true rfl) (Nat.le_of_ble_eq_true rfl) (Nat.le_of_ble_eq_true rfl) (fun v w ty H locs hp I => ?_) (fun E w ty H locs q ce hp _ _ _ _ => ?_)
  rotate_left
  · obtain ⟨_, hv, -⟩ := hp; cases hv
  obtain ⟨g5, hv, rfl, rfl⟩ := hp
  cases hv
  have I : q_I D q_cl _ s [(h0, .inr (0, [.ref s_input, .int (nI 20), .int 0, .ref s_circuit, .ref s_spare, .ref s_faults, .ref s_builder, .ref s_stage])), (s_input, .inl (cI, 32768, .inl g5))] [(cI, .byte)] H _ := I
  refine W.eq (g2 := F0 m 47 ls []) rfl ?_
  refine lv_aload_n hx hb d21_S_feed_47 rfl (lv_at hl 0 rfl) ?_
  refine q_get C I 0 1 rfl rfl i_S (by decide) m21_1 rfl d21_S_feed_48 ?_
  have I : q_I D q_cl _ s [] [] _ _ := q_pick I [] [] rfl (by decide) rfl
  exact q_iret C hr I ⟨rfl, rfl, rfl⟩ (Nat.le_of_ble_eq_true rfl) (Nat.le_of_ble_eq_true rfl) d21_S_feed_51
