set_option maxRecDepth 20000 in
theorem m26_0 : (Cond.fieldLink "SignalTheatreModel" 44 "SignalTheatreModel" "thrown" "I" : Cond) ∈ q_big := q_m13 (List.mem_of_getElem? (i := 170) rfl) rfl
set_option maxRecDepth 20000 in
theorem m26_1 : (Cond.fieldLink "SignalTheatreModel" 47 "SignalTheatreModel" "size" "I" : Cond) ∈ q_big := q_m13 (List.mem_of_getElem? (i := 169) rfl) rfl
set_option maxRecDepth 20000 in
theorem m26_2 : (Cond.constant "SignalTheatreModel" 7 (32768) : Cond) ∈ q_big := q_m11 (List.mem_of_getElem? (i := 115) rfl) rfl
set_option maxRecDepth 20000 in
theorem m26_3 : (Cond.fieldLink "SignalTheatreModel" 8 "SignalTheatreModel" "input" "[B" : Cond) ∈ q_big := q_m13 (List.mem_of_getElem? (i := 168) rfl) rfl
theorem d26_Mod_feed_0 : decode prog_15_method_4_code 0 = .ok (.aload_n 0, 1) := by decide +kernel
theorem d26_Mod_feed_1 : decode prog_15_method_4_code 1 = .ok (.iconst 0, 1) := by decide +kernel
theorem d26_Mod_feed_2 : decode prog_15_method_4_code 2 = .ok (.putfield 44, 3) := by decide +kernel
theorem d26_Mod_feed_5 : decode prog_15_method_4_code 5 = .ok (.aload_n 0, 1) := by decide +kernel
theorem d26_Mod_feed_6 : decode prog_15_method_4_code 6 = .ok (.getfield 47, 3) := by decide +kernel
theorem d26_Mod_feed_9 : decode prog_15_method_4_code 9 = .ok (.bipush 20, 2) := by decide +kernel
theorem d26_Mod_feed_11 : decode prog_15_method_4_code 11 = .ok (.iadd, 1) := by decide +kernel
theorem d26_Mod_feed_12 : decode prog_15_method_4_code 12 = .ok (.ldc 7, 2) := by decide +kernel
theorem d26_Mod_feed_14 : decode prog_15_method_4_code 14 = .ok (.if_icmp .le 10, 3) := by decide +kernel
theorem d26_Mod_feed_24 : decode prog_15_method_4_code 24 = .ok (.iconst 0, 1) := by decide +kernel
theorem d26_Mod_feed_25 : decode prog_15_method_4_code 25 = .ok (.istore 6, 2) := by decide +kernel
theorem d26_Mod_feed_27 : decode prog_15_method_4_code 27 = .ok (.iload 6, 2) := by decide +kernel
theorem d26_Mod_feed_29 : decode prog_15_method_4_code 29 = .ok (.bipush 20, 2) := by decide +kernel
theorem d26_Mod_feed_31 : decode prog_15_method_4_code 31 = .ok (.if_icmp .ge 90, 3) := by decide +kernel
theorem d26_Mod_feed_34 : decode prog_15_method_4_code 34 = .ok (.iload 6, 2) := by decide +kernel
theorem d26_Mod_feed_36 : decode prog_15_method_4_code 36 = .ok (.iconst 4, 1) := by decide +kernel
theorem d26_Mod_feed_37 : decode prog_15_method_4_code 37 = .ok (.if_icmp .ge 7, 3) := by decide +kernel
theorem d26_Mod_feed_40 : decode prog_15_method_4_code 40 = .ok (.iload_n 1, 1) := by decide +kernel
theorem d26_Mod_feed_41 : decode prog_15_method_4_code 41 = .ok (.goto 39, 3) := by decide +kernel
theorem d26_Mod_feed_80 : decode prog_15_method_4_code 80 = .ok (.istore 7, 2) := by decide +kernel
theorem d26_Mod_feed_82 : decode prog_15_method_4_code 82 = .ok (.aload_n 0, 1) := by decide +kernel
theorem d26_Mod_feed_83 : decode prog_15_method_4_code 83 = .ok (.getfield 8, 3) := by decide +kernel
theorem d26_Mod_feed_86 : decode prog_15_method_4_code 86 = .ok (.aload_n 0, 1) := by decide +kernel
theorem d26_Mod_feed_87 : decode prog_15_method_4_code 87 = .ok (.getfield 47, 3) := by decide +kernel
theorem d26_Mod_feed_90 : decode prog_15_method_4_code 90 = .ok (.iload 7, 2) := by decide +kernel
theorem d26_Mod_feed_92 : decode prog_15_method_4_code 92 = .ok (.bipush 24, 2) := by decide +kernel
theorem d26_Mod_feed_94 : decode prog_15_method_4_code 94 = .ok (.iload 6, 2) := by decide +kernel
theorem d26_Mod_feed_96 : decode prog_15_method_4_code 96 = .ok (.iconst 4, 1) := by decide +kernel
theorem d26_Mod_feed_97 : decode prog_15_method_4_code 97 = .ok (.irem, 1) := by decide +kernel
theorem d26_Mod_feed_98 : decode prog_15_method_4_code 98 = .ok (.bipush 8, 2) := by decide +kernel
theorem d26_Mod_feed_100 : decode prog_15_method_4_code 100 = .ok (.imul, 1) := by decide +kernel
theorem d26_Mod_feed_101 : decode prog_15_method_4_code 101 = .ok (.isub, 1) := by decide +kernel
theorem d26_Mod_feed_102 : decode prog_15_method_4_code 102 = .ok (.iushr, 1) := by decide +kernel
theorem d26_Mod_feed_103 : decode prog_15_method_4_code 103 = .ok (.i2b, 1) := by decide +kernel
theorem d26_Mod_feed_104 : decode prog_15_method_4_code 104 = .ok (.bastore, 1) := by decide +kernel
theorem d26_Mod_feed_105 : decode prog_15_method_4_code 105 = .ok (.aload_n 0, 1) := by decide +kernel
theorem d26_Mod_feed_106 : decode prog_15_method_4_code 106 = .ok (.dup, 1) := by decide +kernel
theorem d26_Mod_feed_107 : decode prog_15_method_4_code 107 = .ok (.getfield 47, 3) := by decide +kernel
theorem d26_Mod_feed_110 : decode prog_15_method_4_code 110 = .ok (.iconst 1, 1) := by decide +kernel
theorem d26_Mod_feed_111 : decode prog_15_method_4_code 111 = .ok (.iadd, 1) := by decide +kernel
theorem d26_Mod_feed_112 : decode prog_15_method_4_code 112 = .ok (.putfield 47, 3) := by decide +kernel
theorem d26_Mod_feed_115 : decode prog_15_method_4_code 115 = .ok (.iinc 6 1, 3) := by decide +kernel
theorem d26_Mod_feed_118 : decode prog_15_method_4_code 118 = .ok (.goto (-91), 3) := by decide +kernel
theorem d26_Mod_feed_44 : decode prog_15_method_4_code 44 = .ok (.iload 6, 2) := by decide +kernel
theorem d26_Mod_feed_46 : decode prog_15_method_4_code 46 = .ok (.bipush 8, 2) := by decide +kernel
theorem d26_Mod_feed_48 : decode prog_15_method_4_code 48 = .ok (.if_icmp .ge 7, 3) := by decide +kernel
theorem d26_Mod_feed_51 : decode prog_15_method_4_code 51 = .ok (.iload_n 2, 1) := by decide +kernel
theorem d26_Mod_feed_52 : decode prog_15_method_4_code 52 = .ok (.goto 28, 3) := by decide +kernel
theorem d26_Mod_feed_55 : decode prog_15_method_4_code 55 = .ok (.iload 6, 2) := by decide +kernel
theorem d26_Mod_feed_57 : decode prog_15_method_4_code 57 = .ok (.bipush 12, 2) := by decide +kernel
theorem d26_Mod_feed_59 : decode prog_15_method_4_code 59 = .ok (.if_icmp .ge 7, 3) := by decide +kernel
theorem d26_Mod_feed_62 : decode prog_15_method_4_code 62 = .ok (.iload_n 3, 1) := by decide +kernel
theorem d26_Mod_feed_63 : decode prog_15_method_4_code 63 = .ok (.goto 17, 3) := by decide +kernel
theorem d26_Mod_feed_66 : decode prog_15_method_4_code 66 = .ok (.iload 6, 2) := by decide +kernel
theorem d26_Mod_feed_68 : decode prog_15_method_4_code 68 = .ok (.bipush 16, 2) := by decide +kernel
theorem d26_Mod_feed_70 : decode prog_15_method_4_code 70 = .ok (.if_icmp .ge 8, 3) := by decide +kernel
theorem d26_Mod_feed_73 : decode prog_15_method_4_code 73 = .ok (.iload 4, 2) := by decide +kernel
theorem d26_Mod_feed_75 : decode prog_15_method_4_code 75 = .ok (.goto 5, 3) := by decide +kernel
theorem d26_Mod_feed_78 : decode prog_15_method_4_code 78 = .ok (.iload 5, 2) := by decide +kernel
theorem d26_Mod_feed_121 : decode prog_15_method_4_code 121 = .ok (.aload_n 0, 1) := by decide +kernel
theorem d26_Mod_feed_122 : decode prog_15_method_4_code 122 = .ok (.getfield 47, 3) := by decide +kernel
theorem d26_Mod_feed_125 : decode prog_15_method_4_code 125 = .ok (.ireturn, 1) := by decide +kernel
set_option maxHeartbeats 4000000 in
set_option maxRecDepth 100000 in
/-- feed(..) -/
theorem c_Mod_feed (l : Launch) (D : va_G) (h0 : Nat) (m_input : Nat) (m_tree : Nat) (m_other : Nat) (m_now : Nat) (m_spare : Nat) (m_circuit : Nat) (m_old : Nat) (cA : ClassId) (g : Nat → Int32) (a1 : Int32) (a2 : Int32) (a3 : Int32) (a4 : Int32) (a5 : Int32) : q_Met l ⟨"SignalTheatreModel", "feed", "(IIIII)I"⟩ (Cond.code ⟨"SignalTheatreModel", "feed", "(IIIII)I"⟩ prog_15_method_4_code 8 (some .int)) { frames := 0, cells := 0, slots := 0, locals := 0 } D q_cl [.ref h0, .int a1, .int a2, .int a3, .int a4, .int a5] [(h0, .inr (13, [.ref m_input, .int 0, .int 0, .int 0, .int (-1), .ref m_tree, .ref m_other, .ref m_now, .ref m_spare, .ref m_circuit, .ref m_old])), (m_input, .inl (cA, 32768, .inl g))] [(cA, .byte)] (fun r w ty => ∃ (fs : List Value) (z : Int32), r = .inl (some (.int z)) ∧ w = [(h0, .inr (13, fs))] ∧ ty = [] ∧ q_ag (.inl (some (.int (nI 20)))) (1) fs[2]? (some (.int z))) := by
  refine q_ofW (by decide) ?_
  intro p e s m below meth c C hr hin hex I
  have hx := C.1
  have hb := C.2.1
  have hl := lv_entry ([.ref h0, .int a1, .int a2, .int a3, .int a4, .int a5]) (n := 8) (Nat.le_of_ble_eq_true rfl)
  rw [lg_entry_eq]
  generalize (lg_sl ([.ref h0, .int a1, .int a2, .int a3, .int a4, .int a5]) ++ List.replicate (8 - (lg_sl ([.ref h0, .int a1, .int a2, .int a3, .int a4, .int a5])).length) Slot.unset).toArray = ls at hl ⊢
  have hl : lv_has ls 8 [(0, .ref h0), (1, .int a1), (2, .int a2), (3, .int a3), (4, .int a4), (5, .int a5)] := hl
  refine lv_aload_n hx hb d26_Mod_feed_0 rfl (lv_at hl 0 rfl) ?_
  refine lv_iconst (v := 0) hx hb d26_Mod_feed_1 (by decide) ?_
  refine q_put t_Mod t_Mod_ok n_Mod C I 0 2 rfl rfl i_Mod (by decide) m26_0 rfl rfl rfl (Nat.le_of_ble_eq_true rfl) d26_Mod_feed_2 (fun H locs I => ?_)
  have I : q_I D q_cl _ s [(h0, .inr (13, [.ref m_input, .int 0, .int 0, .int 0, .int (-1), .ref m_tree, .ref m_other, .ref m_now, .ref m_spare, .ref m_circuit, .ref m_old])), (m_input, .inl (cA, 32768, .inl g))] [(cA, .byte)] H _ := I
  refine lv_aload_n hx hb d26_Mod_feed_5 rfl (lv_at hl 0 rfl) ?_
  refine q_get C I 0 1 rfl rfl i_Mod (by decide) m26_1 rfl d26_Mod_feed_6 ?_
  refine lv_bipush (v := 20) hx hb d26_Mod_feed_9 (by decide) ?_
  refine lv_iadd hx hb d26_Mod_feed_11 ?_
  refine W.eq (g2 := F0 m 12 ls [.int 20]) rfl ?_
  refine lv_ldc hx hb C.2.2.2.1 (C.2.2.2.2.1 _ m26_2) d26_Mod_feed_12 ?_
  refine lv_icmp_le (tgt := 24) hx hb d26_Mod_feed_14 (by decide) (fun _ => ?_) (fun h => absurd h (by decide))
  refine lv_iconst (v := 0) hx hb d26_Mod_feed_24 (by decide) ?_
  refine lv_istore (lv' := [(6, .int 0), (0, .ref h0), (1, .int a1), (2, .int a2), (3, .int a3), (4, .int a4), (5, .int a5)]) hx hb d26_Mod_feed_25 hl (by decide) rfl (fun ls hl => ?_)
  refine lv_iload hx hb d26_Mod_feed_27 (lv_at hl 0 rfl) ?_
  refine lv_bipush (v := 20) hx hb d26_Mod_feed_29 (by decide) ?_
  refine lv_icmp_ge (tgt := 121) hx hb d26_Mod_feed_31 (by decide) (fun h => absurd h (by decide)) (fun _ => ?_)
  refine lv_iload hx hb d26_Mod_feed_34 (lv_at hl 0 rfl) ?_
  refine lv_iconst (v := 4) hx hb d26_Mod_feed_36 (by decide) ?_
  refine lv_icmp_ge (tgt := 44) hx hb d26_Mod_feed_37 (by decide) (fun h => absurd h (by decide)) (fun _ => ?_)
  refine lv_iload_n hx hb d26_Mod_feed_40 rfl (lv_at hl 2 rfl) ?_
  refine lv_goto (tgt := 80) hx hb d26_Mod_feed_41 (by decide) ?_
  refine lv_istore (lv' := [(7, .int a1), (6, .int 0), (0, .ref h0), (1, .int a1), (2, .int a2), (3, .int a3), (4, .int a4), (5, .int a5)]) hx hb d26_Mod_feed_80 hl (by decide) rfl (fun ls hl => ?_)
  refine lv_aload_n hx hb d26_Mod_feed_82 rfl (lv_at hl 2 rfl) ?_
  refine q_get C I 0 0 rfl rfl i_Mod (by decide) m26_3 rfl d26_Mod_feed_83 ?_
  refine lv_aload_n hx hb d26_Mod_feed_86 rfl (lv_at hl 2 rfl) ?_
  refine q_get C I 0 1 rfl rfl i_Mod (by decide) m26_1 rfl d26_Mod_feed_87 ?_
  refine lv_iload hx hb d26_Mod_feed_90 (lv_at hl 0 rfl) ?_
  refine lv_bipush (v := 24) hx hb d26_Mod_feed_92 (by decide) ?_
  refine lv_iload hx hb d26_Mod_feed_94 (lv_at hl 1 rfl) ?_
  refine lv_iconst (v := 4) hx hb d26_Mod_feed_96 (by decide) ?_
  refine lv_irem hx hb d26_Mod_feed_97 (by decide) ?_
  refine W.eq (g2 := F0 m 98 ls [.int 0, .int 24, .int a1, .int 0, .ref m_input]) rfl ?_
  refine lv_bipush (v := 8) hx hb d26_Mod_feed_98 (by decide) ?_
  refine lv_imul hx hb d26_Mod_feed_100 ?_
  refine W.eq (g2 := F0 m 101 ls [.int 0, .int 24, .int a1, .int 0, .ref m_input]) rfl ?_
  refine lv_isub hx hb d26_Mod_feed_101 ?_
  refine W.eq (g2 := F0 m 102 ls [.int 24, .int a1, .int 0, .ref m_input]) rfl ?_
  refine lv_iushr hx hb d26_Mod_feed_102 rfl ?_
  refine lv_topi (fun z1 _ => ?_)
  refine lv_i2b hx hb d26_Mod_feed_103 rfl ?_
  refine lv_topi (fun z2 _ => ?_)
  refine q_bastX C I 1 0 rfl rfl (by unfold vp_in; decide) d26_Mod_feed_104 (fun g3 H locs I => ?_)
  have I : q_I D q_cl _ s [(h0, .inr (13, [.ref m_input, .int 0, .int 0, .int 0, .int (-1), .ref m_tree, .ref m_other, .ref m_now, .ref m_spare, .ref m_circuit, .ref m_old])), (m_input, .inl (cA, 32768, .inl g3))] [(cA, .byte)] H _ := I
  refine lv_aload_n hx hb d26_Mod_feed_105 rfl (lv_at hl 2 rfl) ?_
  refine lv_dup hx hb d26_Mod_feed_106 rfl ?_
  refine q_get C I 0 1 rfl rfl i_Mod (by decide) m26_1 rfl d26_Mod_feed_107 ?_
  refine lv_iconst (v := 1) hx hb d26_Mod_feed_110 (by decide) ?_
  refine lv_iadd hx hb d26_Mod_feed_111 ?_
  refine W.eq (g2 := F0 m 112 ls [.int 1, .ref h0]) rfl ?_
  refine q_put t_Mod t_Mod_ok n_Mod C I 0 1 rfl rfl i_Mod (by decide) m26_1 rfl rfl rfl (Nat.le_of_ble_eq_true rfl) d26_Mod_feed_112 (fun H locs I => ?_)
  have I : q_I D q_cl _ s [(h0, .inr (13, [.ref m_input, .int 1, .int 0, .int 0, .int (-1), .ref m_tree, .ref m_other, .ref m_now, .ref m_spare, .ref m_circuit, .ref m_old])), (m_input, .inl (cA, 32768, .inl g3))] [(cA, .byte)] H _ := I
  refine lv_iinc (v := 1) (lv' := [(6, .int 1), (7, .int a1), (0, .ref h0), (1, .int a1), (2, .int a2), (3, .int a3), (4, .int a4), (5, .int a5)]) hx hb d26_Mod_feed_115 hl (k := 1) rfl (by decide) (by decide) rfl (fun ls hl => ?_)
  refine lv_goto (tgt := 27) hx hb d26_Mod_feed_118 (by decide) ?_
  refine lv_iload hx hb d26_Mod_feed_27 (lv_at hl 0 rfl) ?_
  refine lv_bipush (v := 20) hx hb d26_Mod_feed_29 (by decide) ?_
  refine lv_icmp_ge (tgt := 121) hx hb d26_Mod_feed_31 (by decide) (fun h => absurd h (by decide)) (fun _ => ?_)
  refine lv_iload hx hb d26_Mod_feed_34 (lv_at hl 0 rfl) ?_
  refine lv_iconst (v := 4) hx hb d26_Mod_feed_36 (by decide) ?_
  refine lv_icmp_ge (tgt := 44) hx hb d26_Mod_feed_37 (by decide) (fun h => absurd h (by decide)) (fun _ => ?_)
  refine lv_iload_n hx hb d26_Mod_feed_40 rfl (lv_at hl 3 rfl) ?_
  refine lv_goto (tgt := 80) hx hb d26_Mod_feed_41 (by decide) ?_
  refine lv_istore (lv' := [(7, .int a1), (6, .int 1), (0, .ref h0), (1, .int a1), (2, .int a2), (3, .int a3), (4, .int a4), (5, .int a5)]) hx hb d26_Mod_feed_80 hl (by decide) rfl (fun ls hl => ?_)
  refine lv_aload_n hx hb d26_Mod_feed_82 rfl (lv_at hl 2 rfl) ?_
  refine q_get C I 0 0 rfl rfl i_Mod (by decide) m26_3 rfl d26_Mod_feed_83 ?_
  refine lv_aload_n hx hb d26_Mod_feed_86 rfl (lv_at hl 2 rfl) ?_
  refine q_get C I 0 1 rfl rfl i_Mod (by decide) m26_1 rfl d26_Mod_feed_87 ?_
  refine lv_iload hx hb d26_Mod_feed_90 (lv_at hl 0 rfl) ?_
  refine lv_bipush (v := 24) hx hb d26_Mod_feed_92 (by decide) ?_
  refine lv_iload hx hb d26_Mod_feed_94 (lv_at hl 1 rfl) ?_
  refine lv_iconst (v := 4) hx hb d26_Mod_feed_96 (by decide) ?_
  refine lv_irem hx hb d26_Mod_feed_97 (by decide) ?_
  refine W.eq (g2 := F0 m 98 ls [.int 1, .int 24, .int a1, .int 1, .ref m_input]) rfl ?_
  refine lv_bipush (v := 8) hx hb d26_Mod_feed_98 (by decide) ?_
  refine lv_imul hx hb d26_Mod_feed_100 ?_
  refine W.eq (g2 := F0 m 101 ls [.int 8, .int 24, .int a1, .int 1, .ref m_input]) rfl ?_
  refine lv_isub hx hb d26_Mod_feed_101 ?_
  refine W.eq (g2 := F0 m 102 ls [.int 16, .int a1, .int 1, .ref m_input]) rfl ?_
  refine lv_iushr hx hb d26_Mod_feed_102 rfl ?_
  refine lv_topi (fun z4 _ => ?_)
  refine lv_i2b hx hb d26_Mod_feed_103 rfl ?_
  refine lv_topi (fun z5 _ => ?_)
  refine q_bastX C I 1 0 rfl rfl (by unfold vp_in; decide) d26_Mod_feed_104 (fun g6 H locs I => ?_)
  have I : q_I D q_cl _ s [(h0, .inr (13, [.ref m_input, .int 1, .int 0, .int 0, .int (-1), .ref m_tree, .ref m_other, .ref m_now, .ref m_spare, .ref m_circuit, .ref m_old])), (m_input, .inl (cA, 32768, .inl g6))] [(cA, .byte)] H _ := I
  refine lv_aload_n hx hb d26_Mod_feed_105 rfl (lv_at hl 2 rfl) ?_
  refine lv_dup hx hb d26_Mod_feed_106 rfl ?_
  refine q_get C I 0 1 rfl rfl i_Mod (by decide) m26_1 rfl d26_Mod_feed_107 ?_
  refine lv_iconst (v := 1) hx hb d26_Mod_feed_110 (by decide) ?_
  refine lv_iadd hx hb d26_Mod_feed_111 ?_
  refine W.eq (g2 := F0 m 112 ls [.int 2, .ref h0]) rfl ?_
  refine q_put t_Mod t_Mod_ok n_Mod C I 0 1 rfl rfl i_Mod (by decide) m26_1 rfl rfl rfl (Nat.le_of_ble_eq_true rfl) d26_Mod_feed_112 (fun H locs I => ?_)
  have I : q_I D q_cl _ s [(h0, .inr (13, [.ref m_input, .int 2, .int 0, .int 0, .int (-1), .ref m_tree, .ref m_other, .ref m_now, .ref m_spare, .ref m_circuit, .ref m_old])), (m_input, .inl (cA, 32768, .inl g6))] [(cA, .byte)] H _ := I
  refine lv_iinc (v := 2) (lv' := [(6, .int 2), (7, .int a1), (0, .ref h0), (1, .int a1), (2, .int a2), (3, .int a3), (4, .int a4), (5, .int a5)]) hx hb d26_Mod_feed_115 hl (k := 1) rfl (by decide) (by decide) rfl (fun ls hl => ?_)
  refine lv_goto (tgt := 27) hx hb d26_Mod_feed_118 (by decide) ?_
  refine lv_iload hx hb d26_Mod_feed_27 (lv_at hl 0 rfl) ?_
  refine lv_bipush (v := 20) hx hb d26_Mod_feed_29 (by decide) ?_
  refine lv_icmp_ge (tgt := 121) hx hb d26_Mod_feed_31 (by decide) (fun h => absurd h (by decide)) (fun _ => ?_)
  refine lv_iload hx hb d26_Mod_feed_34 (lv_at hl 0 rfl) ?_
  refine lv_iconst (v := 4) hx hb d26_Mod_feed_36 (by decide) ?_
  refine lv_icmp_ge (tgt := 44) hx hb d26_Mod_feed_37 (by decide) (fun h => absurd h (by decide)) (fun _ => ?_)
  refine lv_iload_n hx hb d26_Mod_feed_40 rfl (lv_at hl 3 rfl) ?_
  refine lv_goto (tgt := 80) hx hb d26_Mod_feed_41 (by decide) ?_
  refine lv_istore (lv' := [(7, .int a1), (6, .int 2), (0, .ref h0), (1, .int a1), (2, .int a2), (3, .int a3), (4, .int a4), (5, .int a5)]) hx hb d26_Mod_feed_80 hl (by decide) rfl (fun ls hl => ?_)
  refine lv_aload_n hx hb d26_Mod_feed_82 rfl (lv_at hl 2 rfl) ?_
  refine q_get C I 0 0 rfl rfl i_Mod (by decide) m26_3 rfl d26_Mod_feed_83 ?_
  refine lv_aload_n hx hb d26_Mod_feed_86 rfl (lv_at hl 2 rfl) ?_
  refine q_get C I 0 1 rfl rfl i_Mod (by decide) m26_1 rfl d26_Mod_feed_87 ?_
  refine lv_iload hx hb d26_Mod_feed_90 (lv_at hl 0 rfl) ?_
  refine lv_bipush (v := 24) hx hb d26_Mod_feed_92 (by decide) ?_
  refine lv_iload hx hb d26_Mod_feed_94 (lv_at hl 1 rfl) ?_
  refine lv_iconst (v := 4) hx hb d26_Mod_feed_96 (by decide) ?_
  refine lv_irem hx hb d26_Mod_feed_97 (by decide) ?_
  refine W.eq (g2 := F0 m 98 ls [.int 2, .int 24, .int a1, .int 2, .ref m_input]) rfl ?_
  refine lv_bipush (v := 8) hx hb d26_Mod_feed_98 (by decide) ?_
  refine lv_imul hx hb d26_Mod_feed_100 ?_
  refine W.eq (g2 := F0 m 101 ls [.int 16, .int 24, .int a1, .int 2, .ref m_input]) rfl ?_
  refine lv_isub hx hb d26_Mod_feed_101 ?_
  refine W.eq (g2 := F0 m 102 ls [.int 8, .int a1, .int 2, .ref m_input]) rfl ?_
  refine lv_iushr hx hb d26_Mod_feed_102 rfl ?_
  refine lv_topi (fun z7 _ => ?_)
  refine lv_i2b hx hb d26_Mod_feed_103 rfl ?_
  refine lv_topi (fun z8 _ => ?_)
  refine q_bastX C I 1 0 rfl rfl (by unfold vp_in; decide) d26_Mod_feed_104 (fun g9 H locs I => ?_)
  have I : q_I D q_cl _ s [(h0, .inr (13, [.ref m_input, .int 2, .int 0, .int 0, .int (-1), .ref m_tree, .ref m_other, .ref m_now, .ref m_spare, .ref m_circuit, .ref m_old])), (m_input, .inl (cA, 32768, .inl g9))] [(cA, .byte)] H _ := I
  refine lv_aload_n hx hb d26_Mod_feed_105 rfl (lv_at hl 2 rfl) ?_
  refine lv_dup hx hb d26_Mod_feed_106 rfl ?_
  refine q_get C I 0 1 rfl rfl i_Mod (by decide) m26_1 rfl d26_Mod_feed_107 ?_
  refine lv_iconst (v := 1) hx hb d26_Mod_feed_110 (by decide) ?_
  refine lv_iadd hx hb d26_Mod_feed_111 ?_
  refine W.eq (g2 := F0 m 112 ls [.int 3, .ref h0]) rfl ?_
  refine q_put t_Mod t_Mod_ok n_Mod C I 0 1 rfl rfl i_Mod (by decide) m26_1 rfl rfl rfl (Nat.le_of_ble_eq_true rfl) d26_Mod_feed_112 (fun H locs I => ?_)
  have I : q_I D q_cl _ s [(h0, .inr (13, [.ref m_input, .int 3, .int 0, .int 0, .int (-1), .ref m_tree, .ref m_other, .ref m_now, .ref m_spare, .ref m_circuit, .ref m_old])), (m_input, .inl (cA, 32768, .inl g9))] [(cA, .byte)] H _ := I
  refine lv_iinc (v := 3) (lv' := [(6, .int 3), (7, .int a1), (0, .ref h0), (1, .int a1), (2, .int a2), (3, .int a3), (4, .int a4), (5, .int a5)]) hx hb d26_Mod_feed_115 hl (k := 1) rfl (by decide) (by decide) rfl (fun ls hl => ?_)
  refine lv_goto (tgt := 27) hx hb d26_Mod_feed_118 (by decide) ?_
  refine lv_iload hx hb d26_Mod_feed_27 (lv_at hl 0 rfl) ?_
  refine lv_bipush (v := 20) hx hb d26_Mod_feed_29 (by decide) ?_
  refine lv_icmp_ge (tgt := 121) hx hb d26_Mod_feed_31 (by decide) (fun h => absurd h (by decide)) (fun _ => ?_)
  refine lv_iload hx hb d26_Mod_feed_34 (lv_at hl 0 rfl) ?_
  refine lv_iconst (v := 4) hx hb d26_Mod_feed_36 (by decide) ?_
  refine lv_icmp_ge (tgt := 44) hx hb d26_Mod_feed_37 (by decide) (fun h => absurd h (by decide)) (fun _ => ?_)
  refine lv_iload_n hx hb d26_Mod_feed_40 rfl (lv_at hl 3 rfl) ?_
  refine lv_goto (tgt := 80) hx hb d26_Mod_feed_41 (by decide) ?_
  refine lv_istore (lv' := [(7, .int a1), (6, .int 3), (0, .ref h0), (1, .int a1), (2, .int a2), (3, .int a3), (4, .int a4), (5, .int a5)]) hx hb d26_Mod_feed_80 hl (by decide) rfl (fun ls hl => ?_)
  refine lv_aload_n hx hb d26_Mod_feed_82 rfl (lv_at hl 2 rfl) ?_
  refine q_get C I 0 0 rfl rfl i_Mod (by decide) m26_3 rfl d26_Mod_feed_83 ?_
  refine lv_aload_n hx hb d26_Mod_feed_86 rfl (lv_at hl 2 rfl) ?_
  refine q_get C I 0 1 rfl rfl i_Mod (by decide) m26_1 rfl d26_Mod_feed_87 ?_
  refine lv_iload hx hb d26_Mod_feed_90 (lv_at hl 0 rfl) ?_
  refine lv_bipush (v := 24) hx hb d26_Mod_feed_92 (by decide) ?_
  refine lv_iload hx hb d26_Mod_feed_94 (lv_at hl 1 rfl) ?_
  refine lv_iconst (v := 4) hx hb d26_Mod_feed_96 (by decide) ?_
  refine lv_irem hx hb d26_Mod_feed_97 (by decide) ?_
  refine W.eq (g2 := F0 m 98 ls [.int 3, .int 24, .int a1, .int 3, .ref m_input]) rfl ?_
  refine lv_bipush (v := 8) hx hb d26_Mod_feed_98 (by decide) ?_
  refine lv_imul hx hb d26_Mod_feed_100 ?_
  refine W.eq (g2 := F0 m 101 ls [.int 24, .int 24, .int a1, .int 3, .ref m_input]) rfl ?_
  refine lv_isub hx hb d26_Mod_feed_101 ?_
  refine W.eq (g2 := F0 m 102 ls [.int 0, .int a1, .int 3, .ref m_input]) rfl ?_
  refine lv_iushr hx hb d26_Mod_feed_102 rfl ?_
  refine lv_topi (fun z10 _ => ?_)
  refine lv_i2b hx hb d26_Mod_feed_103 rfl ?_
  refine lv_topi (fun z11 _ => ?_)
  refine q_bastX C I 1 0 rfl rfl (by unfold vp_in; decide) d26_Mod_feed_104 (fun g12 H locs I => ?_)
  have I : q_I D q_cl _ s [(h0, .inr (13, [.ref m_input, .int 3, .int 0, .int 0, .int (-1), .ref m_tree, .ref m_other, .ref m_now, .ref m_spare, .ref m_circuit, .ref m_old])), (m_input, .inl (cA, 32768, .inl g12))] [(cA, .byte)] H _ := I
  refine lv_aload_n hx hb d26_Mod_feed_105 rfl (lv_at hl 2 rfl) ?_
  refine lv_dup hx hb d26_Mod_feed_106 rfl ?_
  refine q_get C I 0 1 rfl rfl i_Mod (by decide) m26_1 rfl d26_Mod_feed_107 ?_
  refine lv_iconst (v := 1) hx hb d26_Mod_feed_110 (by decide) ?_
  refine lv_iadd hx hb d26_Mod_feed_111 ?_
  refine W.eq (g2 := F0 m 112 ls [.int 4, .ref h0]) rfl ?_
  refine q_put t_Mod t_Mod_ok n_Mod C I 0 1 rfl rfl i_Mod (by decide) m26_1 rfl rfl rfl (Nat.le_of_ble_eq_true rfl) d26_Mod_feed_112 (fun H locs I => ?_)
  have I : q_I D q_cl _ s [(h0, .inr (13, [.ref m_input, .int 4, .int 0, .int 0, .int (-1), .ref m_tree, .ref m_other, .ref m_now, .ref m_spare, .ref m_circuit, .ref m_old])), (m_input, .inl (cA, 32768, .inl g12))] [(cA, .byte)] H _ := I
  refine lv_iinc (v := 4) (lv' := [(6, .int 4), (7, .int a1), (0, .ref h0), (1, .int a1), (2, .int a2), (3, .int a3), (4, .int a4), (5, .int a5)]) hx hb d26_Mod_feed_115 hl (k := 1) rfl (by decide) (by decide) rfl (fun ls hl => ?_)
  refine lv_goto (tgt := 27) hx hb d26_Mod_feed_118 (by decide) ?_
  refine lv_iload hx hb d26_Mod_feed_27 (lv_at hl 0 rfl) ?_
  refine lv_bipush (v := 20) hx hb d26_Mod_feed_29 (by decide) ?_
  refine lv_icmp_ge (tgt := 121) hx hb d26_Mod_feed_31 (by decide) (fun h => absurd h (by decide)) (fun _ => ?_)
  refine lv_iload hx hb d26_Mod_feed_34 (lv_at hl 0 rfl) ?_
  refine lv_iconst (v := 4) hx hb d26_Mod_feed_36 (by decide) ?_
  refine lv_icmp_ge (tgt := 44) hx hb d26_Mod_feed_37 (by decide) (fun _ => ?_) (fun h => absurd h (by decide))
  refine lv_iload hx hb d26_Mod_feed_44 (lv_at hl 0 rfl) ?_
  refine lv_bipush (v := 8) hx hb d26_Mod_feed_46 (by decide) ?_
  refine lv_icmp_ge (tgt := 55) hx hb d26_Mod_feed_48 (by decide) (fun h => absurd h (by decide)) (fun _ => ?_)
  refine lv_iload_n hx hb d26_Mod_feed_51 rfl (lv_at hl 4 rfl) ?_
  refine lv_goto (tgt := 80) hx hb d26_Mod_feed_52 (by decide) ?_
  refine lv_istore (lv' := [(7, .int a2), (6, .int 4), (0, .ref h0), (1, .int a1), (2, .int a2), (3, .int a3), (4, .int a4), (5, .int a5)]) hx hb d26_Mod_feed_80 hl (by decide) rfl (fun ls hl => ?_)
  refine lv_aload_n hx hb d26_Mod_feed_82 rfl (lv_at hl 2 rfl) ?_
  refine q_get C I 0 0 rfl rfl i_Mod (by decide) m26_3 rfl d26_Mod_feed_83 ?_
  refine lv_aload_n hx hb d26_Mod_feed_86 rfl (lv_at hl 2 rfl) ?_
  refine q_get C I 0 1 rfl rfl i_Mod (by decide) m26_1 rfl d26_Mod_feed_87 ?_
  refine lv_iload hx hb d26_Mod_feed_90 (lv_at hl 0 rfl) ?_
  refine lv_bipush (v := 24) hx hb d26_Mod_feed_92 (by decide) ?_
  refine lv_iload hx hb d26_Mod_feed_94 (lv_at hl 1 rfl) ?_
  refine lv_iconst (v := 4) hx hb d26_Mod_feed_96 (by decide) ?_
  refine lv_irem hx hb d26_Mod_feed_97 (by decide) ?_
  refine W.eq (g2 := F0 m 98 ls [.int 0, .int 24, .int a2, .int 4, .ref m_input]) rfl ?_
  refine lv_bipush (v := 8) hx hb d26_Mod_feed_98 (by decide) ?_
  refine lv_imul hx hb d26_Mod_feed_100 ?_
  refine W.eq (g2 := F0 m 101 ls [.int 0, .int 24, .int a2, .int 4, .ref m_input]) rfl ?_
  refine lv_isub hx hb d26_Mod_feed_101 ?_
  refine W.eq (g2 := F0 m 102 ls [.int 24, .int a2, .int 4, .ref m_input]) rfl ?_
  refine lv_iushr hx hb d26_Mod_feed_102 rfl ?_
  refine lv_topi (fun z13 _ => ?_)
  refine lv_i2b hx hb d26_Mod_feed_103 rfl ?_
  refine lv_topi (fun z14 _ => ?_)
  refine q_bastX C I 1 0 rfl rfl (by unfold vp_in; decide) d26_Mod_feed_104 (fun g15 H locs I => ?_)
  have I : q_I D q_cl _ s [(h0, .inr (13, [.ref m_input, .int 4, .int 0, .int 0, .int (-1), .ref m_tree, .ref m_other, .ref m_now, .ref m_spare, .ref m_circuit, .ref m_old])), (m_input, .inl (cA, 32768, .inl g15))] [(cA, .byte)] H _ := I
  refine lv_aload_n hx hb d26_Mod_feed_105 rfl (lv_at hl 2 rfl) ?_
  refine lv_dup hx hb d26_Mod_feed_106 rfl ?_
  refine q_get C I 0 1 rfl rfl i_Mod (by decide) m26_1 rfl d26_Mod_feed_107 ?_
  refine lv_iconst (v := 1) hx hb d26_Mod_feed_110 (by decide) ?_
  refine lv_iadd hx hb d26_Mod_feed_111 ?_
  refine W.eq (g2 := F0 m 112 ls [.int 5, .ref h0]) rfl ?_
  refine q_put t_Mod t_Mod_ok n_Mod C I 0 1 rfl rfl i_Mod (by decide) m26_1 rfl rfl rfl (Nat.le_of_ble_eq_true rfl) d26_Mod_feed_112 (fun H locs I => ?_)
  have I : q_I D q_cl _ s [(h0, .inr (13, [.ref m_input, .int 5, .int 0, .int 0, .int (-1), .ref m_tree, .ref m_other, .ref m_now, .ref m_spare, .ref m_circuit, .ref m_old])), (m_input, .inl (cA, 32768, .inl g15))] [(cA, .byte)] H _ := I
  refine lv_iinc (v := 5) (lv' := [(6, .int 5), (7, .int a2), (0, .ref h0), (1, .int a1), (2, .int a2), (3, .int a3), (4, .int a4), (5, .int a5)]) hx hb d26_Mod_feed_115 hl (k := 1) rfl (by decide) (by decide) rfl (fun ls hl => ?_)
  refine lv_goto (tgt := 27) hx hb d26_Mod_feed_118 (by decide) ?_
  refine lv_iload hx hb d26_Mod_feed_27 (lv_at hl 0 rfl) ?_
  refine lv_bipush (v := 20) hx hb d26_Mod_feed_29 (by decide) ?_
  refine lv_icmp_ge (tgt := 121) hx hb d26_Mod_feed_31 (by decide) (fun h => absurd h (by decide)) (fun _ => ?_)
  refine lv_iload hx hb d26_Mod_feed_34 (lv_at hl 0 rfl) ?_
  refine lv_iconst (v := 4) hx hb d26_Mod_feed_36 (by decide) ?_
  refine lv_icmp_ge (tgt := 44) hx hb d26_Mod_feed_37 (by decide) (fun _ => ?_) (fun h => absurd h (by decide))
  refine lv_iload hx hb d26_Mod_feed_44 (lv_at hl 0 rfl) ?_
  refine lv_bipush (v := 8) hx hb d26_Mod_feed_46 (by decide) ?_
  refine lv_icmp_ge (tgt := 55) hx hb d26_Mod_feed_48 (by decide) (fun h => absurd h (by decide)) (fun _ => ?_)
  refine lv_iload_n hx hb d26_Mod_feed_51 rfl (lv_at hl 4 rfl) ?_
  refine lv_goto (tgt := 80) hx hb d26_Mod_feed_52 (by decide) ?_
  refine lv_istore (lv' := [(7, .int a2), (6, .int 5), (0, .ref h0), (1, .int a1), (2, .int a2), (3, .int a3), (4, .int a4), (5, .int a5)]) hx hb d26_Mod_feed_80 hl (by decide) rfl (fun ls hl => ?_)
  refine lv_aload_n hx hb d26_Mod_feed_82 rfl (lv_at hl 2 rfl) ?_
  refine q_get C I 0 0 rfl rfl i_Mod (by decide) m26_3 rfl d26_Mod_feed_83 ?_
  refine lv_aload_n hx hb d26_Mod_feed_86 rfl (lv_at hl 2 rfl) ?_
  refine q_get C I 0 1 rfl rfl i_Mod (by decide) m26_1 rfl d26_Mod_feed_87 ?_
  refine lv_iload hx hb d26_Mod_feed_90 (lv_at hl 0 rfl) ?_
  refine lv_bipush (v := 24) hx hb d26_Mod_feed_92 (by decide) ?_
  refine lv_iload hx hb d26_Mod_feed_94 (lv_at hl 1 rfl) ?_
  refine lv_iconst (v := 4) hx hb d26_Mod_feed_96 (by decide) ?_
  refine lv_irem hx hb d26_Mod_feed_97 (by decide) ?_
  refine W.eq (g2 := F0 m 98 ls [.int 1, .int 24, .int a2, .int 5, .ref m_input]) rfl ?_
  refine lv_bipush (v := 8) hx hb d26_Mod_feed_98 (by decide) ?_
  refine lv_imul hx hb d26_Mod_feed_100 ?_
  refine W.eq (g2 := F0 m 101 ls [.int 8, .int 24, .int a2, .int 5, .ref m_input]) rfl ?_
  refine lv_isub hx hb d26_Mod_feed_101 ?_
  refine W.eq (g2 := F0 m 102 ls [.int 16, .int a2, .int 5, .ref m_input]) rfl ?_
  refine lv_iushr hx hb d26_Mod_feed_102 rfl ?_
  refine lv_topi (fun z16 _ => ?_)
  refine lv_i2b hx hb d26_Mod_feed_103 rfl ?_
  refine lv_topi (fun z17 _ => ?_)
  refine q_bastX C I 1 0 rfl rfl (by unfold vp_in; decide) d26_Mod_feed_104 (fun g18 H locs I => ?_)
  have I : q_I D q_cl _ s [(h0, .inr (13, [.ref m_input, .int 5, .int 0, .int 0, .int (-1), .ref m_tree, .ref m_other, .ref m_now, .ref m_spare, .ref m_circuit, .ref m_old])), (m_input, .inl (cA, 32768, .inl g18))] [(cA, .byte)] H _ := I
  refine lv_aload_n hx hb d26_Mod_feed_105 rfl (lv_at hl 2 rfl) ?_
  refine lv_dup hx hb d26_Mod_feed_106 rfl ?_
  refine q_get C I 0 1 rfl rfl i_Mod (by decide) m26_1 rfl d26_Mod_feed_107 ?_
  refine lv_iconst (v := 1) hx hb d26_Mod_feed_110 (by decide) ?_
  refine lv_iadd hx hb d26_Mod_feed_111 ?_
  refine W.eq (g2 := F0 m 112 ls [.int 6, .ref h0]) rfl ?_
  refine q_put t_Mod t_Mod_ok n_Mod C I 0 1 rfl rfl i_Mod (by decide) m26_1 rfl rfl rfl (Nat.le_of_ble_eq_true rfl) d26_Mod_feed_112 (fun H locs I => ?_)
  have I : q_I D q_cl _ s [(h0, .inr (13, [.ref m_input, .int 6, .int 0, .int 0, .int (-1), .ref m_tree, .ref m_other, .ref m_now, .ref m_spare, .ref m_circuit, .ref m_old])), (m_input, .inl (cA, 32768, .inl g18))] [(cA, .byte)] H _ := I
  refine lv_iinc (v := 6) (lv' := [(6, .int 6), (7, .int a2), (0, .ref h0), (1, .int a1), (2, .int a2), (3, .int a3), (4, .int a4), (5, .int a5)]) hx hb d26_Mod_feed_115 hl (k := 1) rfl (by decide) (by decide) rfl (fun ls hl => ?_)
  refine lv_goto (tgt := 27) hx hb d26_Mod_feed_118 (by decide) ?_
  refine lv_iload hx hb d26_Mod_feed_27 (lv_at hl 0 rfl) ?_
  refine lv_bipush (v := 20) hx hb d26_Mod_feed_29 (by decide) ?_
  refine lv_icmp_ge (tgt := 121) hx hb d26_Mod_feed_31 (by decide) (fun h => absurd h (by decide)) (fun _ => ?_)
  refine lv_iload hx hb d26_Mod_feed_34 (lv_at hl 0 rfl) ?_
  refine lv_iconst (v := 4) hx hb d26_Mod_feed_36 (by decide) ?_
  refine lv_icmp_ge (tgt := 44) hx hb d26_Mod_feed_37 (by decide) (fun _ => ?_) (fun h => absurd h (by decide))
  refine lv_iload hx hb d26_Mod_feed_44 (lv_at hl 0 rfl) ?_
  refine lv_bipush (v := 8) hx hb d26_Mod_feed_46 (by decide) ?_
  refine lv_icmp_ge (tgt := 55) hx hb d26_Mod_feed_48 (by decide) (fun h => absurd h (by decide)) (fun _ => ?_)
  refine lv_iload_n hx hb d26_Mod_feed_51 rfl (lv_at hl 4 rfl) ?_
  refine lv_goto (tgt := 80) hx hb d26_Mod_feed_52 (by decide) ?_
  refine lv_istore (lv' := [(7, .int a2), (6, .int 6), (0, .ref h0), (1, .int a1), (2, .int a2), (3, .int a3), (4, .int a4), (5, .int a5)]) hx hb d26_Mod_feed_80 hl (by decide) rfl (fun ls hl => ?_)
  refine lv_aload_n hx hb d26_Mod_feed_82 rfl (lv_at hl 2 rfl) ?_
  refine q_get C I 0 0 rfl rfl i_Mod (by decide) m26_3 rfl d26_Mod_feed_83 ?_
  refine lv_aload_n hx hb d26_Mod_feed_86 rfl (lv_at hl 2 rfl) ?_
  refine q_get C I 0 1 rfl rfl i_Mod (by decide) m26_1 rfl d26_Mod_feed_87 ?_
  refine lv_iload hx hb d26_Mod_feed_90 (lv_at hl 0 rfl) ?_
  refine lv_bipush (v := 24) hx hb d26_Mod_feed_92 (by decide) ?_
  refine lv_iload hx hb d26_Mod_feed_94 (lv_at hl 1 rfl) ?_
  refine lv_iconst (v := 4) hx hb d26_Mod_feed_96 (by decide) ?_
  refine lv_irem hx hb d26_Mod_feed_97 (by decide) ?_
  refine W.eq (g2 := F0 m 98 ls [.int 2, .int 24, .int a2, .int 6, .ref m_input]) rfl ?_
  refine lv_bipush (v := 8) hx hb d26_Mod_feed_98 (by decide) ?_
  refine lv_imul hx hb d26_Mod_feed_100 ?_
  refine W.eq (g2 := F0 m 101 ls [.int 16, .int 24, .int a2, .int 6, .ref m_input]) rfl ?_
  refine lv_isub hx hb d26_Mod_feed_101 ?_
  refine W.eq (g2 := F0 m 102 ls [.int 8, .int a2, .int 6, .ref m_input]) rfl ?_
  refine lv_iushr hx hb d26_Mod_feed_102 rfl ?_
  refine lv_topi (fun z19 _ => ?_)
  refine lv_i2b hx hb d26_Mod_feed_103 rfl ?_
  refine lv_topi (fun z20 _ => ?_)
  refine q_bastX C I 1 0 rfl rfl (by unfold vp_in; decide) d26_Mod_feed_104 (fun g21 H locs I => ?_)
  have I : q_I D q_cl _ s [(h0, .inr (13, [.ref m_input, .int 6, .int 0, .int 0, .int (-1), .ref m_tree, .ref m_other, .ref m_now, .ref m_spare, .ref m_circuit, .ref m_old])), (m_input, .inl (cA, 32768, .inl g21))] [(cA, .byte)] H _ := I
  refine lv_aload_n hx hb d26_Mod_feed_105 rfl (lv_at hl 2 rfl) ?_
  refine lv_dup hx hb d26_Mod_feed_106 rfl ?_
  refine q_get C I 0 1 rfl rfl i_Mod (by decide) m26_1 rfl d26_Mod_feed_107 ?_
  refine lv_iconst (v := 1) hx hb d26_Mod_feed_110 (by decide) ?_
  refine lv_iadd hx hb d26_Mod_feed_111 ?_
  refine W.eq (g2 := F0 m 112 ls [.int 7, .ref h0]) rfl ?_
  refine q_put t_Mod t_Mod_ok n_Mod C I 0 1 rfl rfl i_Mod (by decide) m26_1 rfl rfl rfl (Nat.le_of_ble_eq_true rfl) d26_Mod_feed_112 (fun H locs I => ?_)
  have I : q_I D q_cl _ s [(h0, .inr (13, [.ref m_input, .int 7, .int 0, .int 0, .int (-1), .ref m_tree, .ref m_other, .ref m_now, .ref m_spare, .ref m_circuit, .ref m_old])), (m_input, .inl (cA, 32768, .inl g21))] [(cA, .byte)] H _ := I
  refine lv_iinc (v := 7) (lv' := [(6, .int 7), (7, .int a2), (0, .ref h0), (1, .int a1), (2, .int a2), (3, .int a3), (4, .int a4), (5, .int a5)]) hx hb d26_Mod_feed_115 hl (k := 1) rfl (by decide) (by decide) rfl (fun ls hl => ?_)
  refine lv_goto (tgt := 27) hx hb d26_Mod_feed_118 (by decide) ?_
  refine lv_iload hx hb d26_Mod_feed_27 (lv_at hl 0 rfl) ?_
  refine lv_bipush (v := 20) hx hb d26_Mod_feed_29 (by decide) ?_
  refine lv_icmp_ge (tgt := 121) hx hb d26_Mod_feed_31 (by decide) (fun h => absurd h (by decide)) (fun _ => ?_)
  refine lv_iload hx hb d26_Mod_feed_34 (lv_at hl 0 rfl) ?_
  refine lv_iconst (v := 4) hx hb d26_Mod_feed_36 (by decide) ?_
  refine lv_icmp_ge (tgt := 44) hx hb d26_Mod_feed_37 (by decide) (fun _ => ?_) (fun h => absurd h (by decide))
  refine lv_iload hx hb d26_Mod_feed_44 (lv_at hl 0 rfl) ?_
  refine lv_bipush (v := 8) hx hb d26_Mod_feed_46 (by decide) ?_
  refine lv_icmp_ge (tgt := 55) hx hb d26_Mod_feed_48 (by decide) (fun h => absurd h (by decide)) (fun _ => ?_)
  refine lv_iload_n hx hb d26_Mod_feed_51 rfl (lv_at hl 4 rfl) ?_
  refine lv_goto (tgt := 80) hx hb d26_Mod_feed_52 (by decide) ?_
  refine lv_istore (lv' := [(7, .int a2), (6, .int 7), (0, .ref h0), (1, .int a1), (2, .int a2), (3, .int a3), (4, .int a4), (5, .int a5)]) hx hb d26_Mod_feed_80 hl (by decide) rfl (fun ls hl => ?_)
  refine lv_aload_n hx hb d26_Mod_feed_82 rfl (lv_at hl 2 rfl) ?_
  refine q_get C I 0 0 rfl rfl i_Mod (by decide) m26_3 rfl d26_Mod_feed_83 ?_
  refine lv_aload_n hx hb d26_Mod_feed_86 rfl (lv_at hl 2 rfl) ?_
  refine q_get C I 0 1 rfl rfl i_Mod (by decide) m26_1 rfl d26_Mod_feed_87 ?_
  refine lv_iload hx hb d26_Mod_feed_90 (lv_at hl 0 rfl) ?_
  refine lv_bipush (v := 24) hx hb d26_Mod_feed_92 (by decide) ?_
  refine lv_iload hx hb d26_Mod_feed_94 (lv_at hl 1 rfl) ?_
  refine lv_iconst (v := 4) hx hb d26_Mod_feed_96 (by decide) ?_
  refine lv_irem hx hb d26_Mod_feed_97 (by decide) ?_
  refine W.eq (g2 := F0 m 98 ls [.int 3, .int 24, .int a2, .int 7, .ref m_input]) rfl ?_
  refine lv_bipush (v := 8) hx hb d26_Mod_feed_98 (by decide) ?_
  refine lv_imul hx hb d26_Mod_feed_100 ?_
  refine W.eq (g2 := F0 m 101 ls [.int 24, .int 24, .int a2, .int 7, .ref m_input]) rfl ?_
  refine lv_isub hx hb d26_Mod_feed_101 ?_
  refine W.eq (g2 := F0 m 102 ls [.int 0, .int a2, .int 7, .ref m_input]) rfl ?_
  refine lv_iushr hx hb d26_Mod_feed_102 rfl ?_
  refine lv_topi (fun z22 _ => ?_)
  refine lv_i2b hx hb d26_Mod_feed_103 rfl ?_
  refine lv_topi (fun z23 _ => ?_)
  refine q_bastX C I 1 0 rfl rfl (by unfold vp_in; decide) d26_Mod_feed_104 (fun g24 H locs I => ?_)
  have I : q_I D q_cl _ s [(h0, .inr (13, [.ref m_input, .int 7, .int 0, .int 0, .int (-1), .ref m_tree, .ref m_other, .ref m_now, .ref m_spare, .ref m_circuit, .ref m_old])), (m_input, .inl (cA, 32768, .inl g24))] [(cA, .byte)] H _ := I
  refine lv_aload_n hx hb d26_Mod_feed_105 rfl (lv_at hl 2 rfl) ?_
  refine lv_dup hx hb d26_Mod_feed_106 rfl ?_
  refine q_get C I 0 1 rfl rfl i_Mod (by decide) m26_1 rfl d26_Mod_feed_107 ?_
  refine lv_iconst (v := 1) hx hb d26_Mod_feed_110 (by decide) ?_
  refine lv_iadd hx hb d26_Mod_feed_111 ?_
  refine W.eq (g2 := F0 m 112 ls [.int 8, .ref h0]) rfl ?_
  refine q_put t_Mod t_Mod_ok n_Mod C I 0 1 rfl rfl i_Mod (by decide) m26_1 rfl rfl rfl (Nat.le_of_ble_eq_true rfl) d26_Mod_feed_112 (fun H locs I => ?_)
  have I : q_I D q_cl _ s [(h0, .inr (13, [.ref m_input, .int 8, .int 0, .int 0, .int (-1), .ref m_tree, .ref m_other, .ref m_now, .ref m_spare, .ref m_circuit, .ref m_old])), (m_input, .inl (cA, 32768, .inl g24))] [(cA, .byte)] H _ := I
  refine lv_iinc (v := 8) (lv' := [(6, .int 8), (7, .int a2), (0, .ref h0), (1, .int a1), (2, .int a2), (3, .int a3), (4, .int a4), (5, .int a5)]) hx hb d26_Mod_feed_115 hl (k := 1) rfl (by decide) (by decide) rfl (fun ls hl => ?_)
  refine lv_goto (tgt := 27) hx hb d26_Mod_feed_118 (by decide) ?_
  refine lv_iload hx hb d26_Mod_feed_27 (lv_at hl 0 rfl) ?_
  refine lv_bipush (v := 20) hx hb d26_Mod_feed_29 (by decide) ?_
  refine lv_icmp_ge (tgt := 121) hx hb d26_Mod_feed_31 (by decide) (fun h => absurd h (by decide)) (fun _ => ?_)
  refine lv_iload hx hb d26_Mod_feed_34 (lv_at hl 0 rfl) ?_
  refine lv_iconst (v := 4) hx hb d26_Mod_feed_36 (by decide) ?_
  refine lv_icmp_ge (tgt := 44) hx hb d26_Mod_feed_37 (by decide) (fun _ => ?_) (fun h => absurd h (by decide))
  refine lv_iload hx hb d26_Mod_feed_44 (lv_at hl 0 rfl) ?_
  refine lv_bipush (v := 8) hx hb d26_Mod_feed_46 (by decide) ?_
  refine lv_icmp_ge (tgt := 55) hx hb d26_Mod_feed_48 (by decide) (fun _ => ?_) (fun h => absurd h (by decide))
  refine lv_iload hx hb d26_Mod_feed_55 (lv_at hl 0 rfl) ?_
  refine lv_bipush (v := 12) hx hb d26_Mod_feed_57 (by decide) ?_
  refine lv_icmp_ge (tgt := 66) hx hb d26_Mod_feed_59 (by decide) (fun h => absurd h (by decide)) (fun _ => ?_)
  refine lv_iload_n hx hb d26_Mod_feed_62 rfl (lv_at hl 5 rfl) ?_
  refine lv_goto (tgt := 80) hx hb d26_Mod_feed_63 (by decide) ?_
  refine lv_istore (lv' := [(7, .int a3), (6, .int 8), (0, .ref h0), (1, .int a1), (2, .int a2), (3, .int a3), (4, .int a4), (5, .int a5)]) hx hb d26_Mod_feed_80 hl (by decide) rfl (fun ls hl => ?_)
  refine lv_aload_n hx hb d26_Mod_feed_82 rfl (lv_at hl 2 rfl) ?_
  refine q_get C I 0 0 rfl rfl i_Mod (by decide) m26_3 rfl d26_Mod_feed_83 ?_
  refine lv_aload_n hx hb d26_Mod_feed_86 rfl (lv_at hl 2 rfl) ?_
  refine q_get C I 0 1 rfl rfl i_Mod (by decide) m26_1 rfl d26_Mod_feed_87 ?_
  refine lv_iload hx hb d26_Mod_feed_90 (lv_at hl 0 rfl) ?_
  refine lv_bipush (v := 24) hx hb d26_Mod_feed_92 (by decide) ?_
  refine lv_iload hx hb d26_Mod_feed_94 (lv_at hl 1 rfl) ?_
  refine lv_iconst (v := 4) hx hb d26_Mod_feed_96 (by decide) ?_
  refine lv_irem hx hb d26_Mod_feed_97 (by decide) ?_
  refine W.eq (g2 := F0 m 98 ls [.int 0, .int 24, .int a3, .int 8, .ref m_input]) rfl ?_
  refine lv_bipush (v := 8) hx hb d26_Mod_feed_98 (by decide) ?_
  refine lv_imul hx hb d26_Mod_feed_100 ?_
  refine W.eq (g2 := F0 m 101 ls [.int 0, .int 24, .int a3, .int 8, .ref m_input]) rfl ?_
  refine lv_isub hx hb d26_Mod_feed_101 ?_
  refine W.eq (g2 := F0 m 102 ls [.int 24, .int a3, .int 8, .ref m_input]) rfl ?_
  refine lv_iushr hx hb d26_Mod_feed_102 rfl ?_
  refine lv_topi (fun z25 _ => ?_)
  refine lv_i2b hx hb d26_Mod_feed_103 rfl ?_
  refine lv_topi (fun z26 _ => ?_)
  refine q_bastX C I 1 0 rfl rfl (by unfold vp_in; decide) d26_Mod_feed_104 (fun g27 H locs I => ?_)
  have I : q_I D q_cl _ s [(h0, .inr (13, [.ref m_input, .int 8, .int 0, .int 0, .int (-1), .ref m_tree, .ref m_other, .ref m_now, .ref m_spare, .ref m_circuit, .ref m_old])), (m_input, .inl (cA, 32768, .inl g27))] [(cA, .byte)] H _ := I
  refine lv_aload_n hx hb d26_Mod_feed_105 rfl (lv_at hl 2 rfl) ?_
  refine lv_dup hx hb d26_Mod_feed_106 rfl ?_
  refine q_get C I 0 1 rfl rfl i_Mod (by decide) m26_1 rfl d26_Mod_feed_107 ?_
  refine lv_iconst (v := 1) hx hb d26_Mod_feed_110 (by decide) ?_
  refine lv_iadd hx hb d26_Mod_feed_111 ?_
  refine W.eq (g2 := F0 m 112 ls [.int 9, .ref h0]) rfl ?_
  refine q_put t_Mod t_Mod_ok n_Mod C I 0 1 rfl rfl i_Mod (by decide) m26_1 rfl rfl rfl (Nat.le_of_ble_eq_true rfl) d26_Mod_feed_112 (fun H locs I => ?_)
  have I : q_I D q_cl _ s [(h0, .inr (13, [.ref m_input, .int 9, .int 0, .int 0, .int (-1), .ref m_tree, .ref m_other, .ref m_now, .ref m_spare, .ref m_circuit, .ref m_old])), (m_input, .inl (cA, 32768, .inl g27))] [(cA, .byte)] H _ := I
  refine lv_iinc (v := 9) (lv' := [(6, .int 9), (7, .int a3), (0, .ref h0), (1, .int a1), (2, .int a2), (3, .int a3), (4, .int a4), (5, .int a5)]) hx hb d26_Mod_feed_115 hl (k := 1) rfl (by decide) (by decide) rfl (fun ls hl => ?_)
  refine lv_goto (tgt := 27) hx hb d26_Mod_feed_118 (by decide) ?_
  refine lv_iload hx hb d26_Mod_feed_27 (lv_at hl 0 rfl) ?_
  refine lv_bipush (v := 20) hx hb d26_Mod_feed_29 (by decide) ?_
  refine lv_icmp_ge (tgt := 121) hx hb d26_Mod_feed_31 (by decide) (fun h => absurd h (by decide)) (fun _ => ?_)
  refine lv_iload hx hb d26_Mod_feed_34 (lv_at hl 0 rfl) ?_
  refine lv_iconst (v := 4) hx hb d26_Mod_feed_36 (by decide) ?_
  refine lv_icmp_ge (tgt := 44) hx hb d26_Mod_feed_37 (by decide) (fun _ => ?_) (fun h => absurd h (by decide))
  refine lv_iload hx hb d26_Mod_feed_44 (lv_at hl 0 rfl) ?_
  refine lv_bipush (v := 8) hx hb d26_Mod_feed_46 (by decide) ?_
  refine lv_icmp_ge (tgt := 55) hx hb d26_Mod_feed_48 (by decide) (fun _ => ?_) (fun h => absurd h (by decide))
  refine lv_iload hx hb d26_Mod_feed_55 (lv_at hl 0 rfl) ?_
  refine lv_bipush (v := 12) hx hb d26_Mod_feed_57 (by decide) ?_
  refine lv_icmp_ge (tgt := 66) hx hb d26_Mod_feed_59 (by decide) (fun h => absurd h (by decide)) (fun _ => ?_)
  refine lv_iload_n hx hb d26_Mod_feed_62 rfl (lv_at hl 5 rfl) ?_
  refine lv_goto (tgt := 80) hx hb d26_Mod_feed_63 (by decide) ?_
  refine lv_istore (lv' := [(7, .int a3), (6, .int 9), (0, .ref h0), (1, .int a1), (2, .int a2), (3, .int a3), (4, .int a4), (5, .int a5)]) hx hb d26_Mod_feed_80 hl (by decide) rfl (fun ls hl => ?_)
  refine lv_aload_n hx hb d26_Mod_feed_82 rfl (lv_at hl 2 rfl) ?_
  refine q_get C I 0 0 rfl rfl i_Mod (by decide) m26_3 rfl d26_Mod_feed_83 ?_
  refine lv_aload_n hx hb d26_Mod_feed_86 rfl (lv_at hl 2 rfl) ?_
  refine q_get C I 0 1 rfl rfl i_Mod (by decide) m26_1 rfl d26_Mod_feed_87 ?_
  refine lv_iload hx hb d26_Mod_feed_90 (lv_at hl 0 rfl) ?_
  refine lv_bipush (v := 24) hx hb d26_Mod_feed_92 (by decide) ?_
  refine lv_iload hx hb d26_Mod_feed_94 (lv_at hl 1 rfl) ?_
  refine lv_iconst (v := 4) hx hb d26_Mod_feed_96 (by decide) ?_
  refine lv_irem hx hb d26_Mod_feed_97 (by decide) ?_
  refine W.eq (g2 := F0 m 98 ls [.int 1, .int 24, .int a3, .int 9, .ref m_input]) rfl ?_
  refine lv_bipush (v := 8) hx hb d26_Mod_feed_98 (by decide) ?_
  refine lv_imul hx hb d26_Mod_feed_100 ?_
  refine W.eq (g2 := F0 m 101 ls [.int 8, .int 24, .int a3, .int 9, .ref m_input]) rfl ?_
  refine lv_isub hx hb d26_Mod_feed_101 ?_
  refine W.eq (g2 := F0 m 102 ls [.int 16, .int a3, .int 9, .ref m_input]) rfl ?_
  refine lv_iushr hx hb d26_Mod_feed_102 rfl ?_
  refine lv_topi (fun z28 _ => ?_)
  refine lv_i2b hx hb d26_Mod_feed_103 rfl ?_
  refine lv_topi (fun z29 _ => ?_)
  refine q_bastX C I 1 0 rfl rfl (by unfold vp_in; decide) d26_Mod_feed_104 (fun g30 H locs I => ?_)
  have I : q_I D q_cl _ s [(h0, .inr (13, [.ref m_input, .int 9, .int 0, .int 0, .int (-1), .ref m_tree, .ref m_other, .ref m_now, .ref m_spare, .ref m_circuit, .ref m_old])), (m_input, .inl (cA, 32768, .inl g30))] [(cA, .byte)] H _ := I
  refine lv_aload_n hx hb d26_Mod_feed_105 rfl (lv_at hl 2 rfl) ?_
  refine lv_dup hx hb d26_Mod_feed_106 rfl ?_
  refine q_get C I 0 1 rfl rfl i_Mod (by decide) m26_1 rfl d26_Mod_feed_107 ?_
  refine lv_iconst (v := 1) hx hb d26_Mod_feed_110 (by decide) ?_
  refine lv_iadd hx hb d26_Mod_feed_111 ?_
  refine W.eq (g2 := F0 m 112 ls [.int 10, .ref h0]) rfl ?_
  refine q_put t_Mod t_Mod_ok n_Mod C I 0 1 rfl rfl i_Mod (by decide) m26_1 rfl rfl rfl (Nat.le_of_ble_eq_true rfl) d26_Mod_feed_112 (fun H locs I => ?_)
  have I : q_I D q_cl _ s [(h0, .inr (13, [.ref m_input, .int 10, .int 0, .int 0, .int (-1), .ref m_tree, .ref m_other, .ref m_now, .ref m_spare, .ref m_circuit, .ref m_old])), (m_input, .inl (cA, 32768, .inl g30))] [(cA, .byte)] H _ := I
  refine lv_iinc (v := 10) (lv' := [(6, .int 10), (7, .int a3), (0, .ref h0), (1, .int a1), (2, .int a2), (3, .int a3), (4, .int a4), (5, .int a5)]) hx hb d26_Mod_feed_115 hl (k := 1) rfl (by decide) (by decide) rfl (fun ls hl => ?_)
  refine lv_goto (tgt := 27) hx hb d26_Mod_feed_118 (by decide) ?_
  refine lv_iload hx hb d26_Mod_feed_27 (lv_at hl 0 rfl) ?_
  refine lv_bipush (v := 20) hx hb d26_Mod_feed_29 (by decide) ?_
  refine lv_icmp_ge (tgt := 121) hx hb d26_Mod_feed_31 (by decide) (fun h => absurd h (by decide)) (fun _ => ?_)
  refine lv_iload hx hb d26_Mod_feed_34 (lv_at hl 0 rfl) ?_
  refine lv_iconst (v := 4) hx hb d26_Mod_feed_36 (by decide) ?_
  refine lv_icmp_ge (tgt := 44) hx hb d26_Mod_feed_37 (by decide) (fun _ => ?_) (fun h => absurd h (by decide))
  refine lv_iload hx hb d26_Mod_feed_44 (lv_at hl 0 rfl) ?_
  refine lv_bipush (v := 8) hx hb d26_Mod_feed_46 (by decide) ?_
  refine lv_icmp_ge (tgt := 55) hx hb d26_Mod_feed_48 (by decide) (fun _ => ?_) (fun h => absurd h (by decide))
  refine lv_iload hx hb d26_Mod_feed_55 (lv_at hl 0 rfl) ?_
  refine lv_bipush (v := 12) hx hb d26_Mod_feed_57 (by decide) ?_
  refine lv_icmp_ge (tgt := 66) hx hb d26_Mod_feed_59 (by decide) (fun h => absurd h (by decide)) (fun _ => ?_)
  refine lv_iload_n hx hb d26_Mod_feed_62 rfl (lv_at hl 5 rfl) ?_
  refine lv_goto (tgt := 80) hx hb d26_Mod_feed_63 (by decide) ?_
  refine lv_istore (lv' := [(7, .int a3), (6, .int 10), (0, .ref h0), (1, .int a1), (2, .int a2), (3, .int a3), (4, .int a4), (5, .int a5)]) hx hb d26_Mod_feed_80 hl (by decide) rfl (fun ls hl => ?_)
  refine lv_aload_n hx hb d26_Mod_feed_82 rfl (lv_at hl 2 rfl) ?_
  refine q_get C I 0 0 rfl rfl i_Mod (by decide) m26_3 rfl d26_Mod_feed_83 ?_
  refine lv_aload_n hx hb d26_Mod_feed_86 rfl (lv_at hl 2 rfl) ?_
  refine q_get C I 0 1 rfl rfl i_Mod (by decide) m26_1 rfl d26_Mod_feed_87 ?_
  refine lv_iload hx hb d26_Mod_feed_90 (lv_at hl 0 rfl) ?_
  refine lv_bipush (v := 24) hx hb d26_Mod_feed_92 (by decide) ?_
  refine lv_iload hx hb d26_Mod_feed_94 (lv_at hl 1 rfl) ?_
  refine lv_iconst (v := 4) hx hb d26_Mod_feed_96 (by decide) ?_
  refine lv_irem hx hb d26_Mod_feed_97 (by decide) ?_
  refine W.eq (g2 := F0 m 98 ls [.int 2, .int 24, .int a3, .int 10, .ref m_input]) rfl ?_
  refine lv_bipush (v := 8) hx hb d26_Mod_feed_98 (by decide) ?_
  refine lv_imul hx hb d26_Mod_feed_100 ?_
  refine W.eq (g2 := F0 m 101 ls [.int 16, .int 24, .int a3, .int 10, .ref m_input]) rfl ?_
  refine lv_isub hx hb d26_Mod_feed_101 ?_
  refine W.eq (g2 := F0 m 102 ls [.int 8, .int a3, .int 10, .ref m_input]) rfl ?_
  refine lv_iushr hx hb d26_Mod_feed_102 rfl ?_
  refine lv_topi (fun z31 _ => ?_)
  refine lv_i2b hx hb d26_Mod_feed_103 rfl ?_
  refine lv_topi (fun z32 _ => ?_)
  refine q_bastX C I 1 0 rfl rfl (by unfold vp_in; decide) d26_Mod_feed_104 (fun g33 H locs I => ?_)
  have I : q_I D q_cl _ s [(h0, .inr (13, [.ref m_input, .int 10, .int 0, .int 0, .int (-1), .ref m_tree, .ref m_other, .ref m_now, .ref m_spare, .ref m_circuit, .ref m_old])), (m_input, .inl (cA, 32768, .inl g33))] [(cA, .byte)] H _ := I
  refine lv_aload_n hx hb d26_Mod_feed_105 rfl (lv_at hl 2 rfl) ?_
  refine lv_dup hx hb d26_Mod_feed_106 rfl ?_
  refine q_get C I 0 1 rfl rfl i_Mod (by decide) m26_1 rfl d26_Mod_feed_107 ?_
  refine lv_iconst (v := 1) hx hb d26_Mod_feed_110 (by decide) ?_
  refine lv_iadd hx hb d26_Mod_feed_111 ?_
  refine W.eq (g2 := F0 m 112 ls [.int 11, .ref h0]) rfl ?_
  refine q_put t_Mod t_Mod_ok n_Mod C I 0 1 rfl rfl i_Mod (by decide) m26_1 rfl rfl rfl (Nat.le_of_ble_eq_true rfl) d26_Mod_feed_112 (fun H locs I => ?_)
  have I : q_I D q_cl _ s [(h0, .inr (13, [.ref m_input, .int 11, .int 0, .int 0, .int (-1), .ref m_tree, .ref m_other, .ref m_now, .ref m_spare, .ref m_circuit, .ref m_old])), (m_input, .inl (cA, 32768, .inl g33))] [(cA, .byte)] H _ := I
  refine lv_iinc (v := 11) (lv' := [(6, .int 11), (7, .int a3), (0, .ref h0), (1, .int a1), (2, .int a2), (3, .int a3), (4, .int a4), (5, .int a5)]) hx hb d26_Mod_feed_115 hl (k := 1) rfl (by decide) (by decide) rfl (fun ls hl => ?_)
  refine lv_goto (tgt := 27) hx hb d26_Mod_feed_118 (by decide) ?_
  refine lv_iload hx hb d26_Mod_feed_27 (lv_at hl 0 rfl) ?_
  refine lv_bipush (v := 20) hx hb d26_Mod_feed_29 (by decide) ?_
  refine lv_icmp_ge (tgt := 121) hx hb d26_Mod_feed_31 (by decide) (fun h => absurd h (by decide)) (fun _ => ?_)
  refine lv_iload hx hb d26_Mod_feed_34 (lv_at hl 0 rfl) ?_
  refine lv_iconst (v := 4) hx hb d26_Mod_feed_36 (by decide) ?_
  refine lv_icmp_ge (tgt := 44) hx hb d26_Mod_feed_37 (by decide) (fun _ => ?_) (fun h => absurd h (by decide))
  refine lv_iload hx hb d26_Mod_feed_44 (lv_at hl 0 rfl) ?_
  refine lv_bipush (v := 8) hx hb d26_Mod_feed_46 (by decide) ?_
  refine lv_icmp_ge (tgt := 55) hx hb d26_Mod_feed_48 (by decide) (fun _ => ?_) (fun h => absurd h (by decide))
  refine lv_iload hx hb d26_Mod_feed_55 (lv_at hl 0 rfl) ?_
  refine lv_bipush (v := 12) hx hb d26_Mod_feed_57 (by decide) ?_
  refine lv_icmp_ge (tgt := 66) hx hb d26_Mod_feed_59 (by decide) (fun h => absurd h (by decide)) (fun _ => ?_)
  refine lv_iload_n hx hb d26_Mod_feed_62 rfl (lv_at hl 5 rfl) ?_
  refine lv_goto (tgt := 80) hx hb d26_Mod_feed_63 (by decide) ?_
  refine lv_istore (lv' := [(7, .int a3), (6, .int 11), (0, .ref h0), (1, .int a1), (2, .int a2), (3, .int a3), (4, .int a4), (5, .int a5)]) hx hb d26_Mod_feed_80 hl (by decide) rfl (fun ls hl => ?_)
  refine lv_aload_n hx hb d26_Mod_feed_82 rfl (lv_at hl 2 rfl) ?_
  refine q_get C I 0 0 rfl rfl i_Mod (by decide) m26_3 rfl d26_Mod_feed_83 ?_
  refine lv_aload_n hx hb d26_Mod_feed_86 rfl (lv_at hl 2 rfl) ?_
  refine q_get C I 0 1 rfl rfl i_Mod (by decide) m26_1 rfl d26_Mod_feed_87 ?_
  refine lv_iload hx hb d26_Mod_feed_90 (lv_at hl 0 rfl) ?_
  refine lv_bipush (v := 24) hx hb d26_Mod_feed_92 (by decide) ?_
  refine lv_iload hx hb d26_Mod_feed_94 (lv_at hl 1 rfl) ?_
  refine lv_iconst (v := 4) hx hb d26_Mod_feed_96 (by decide) ?_
  refine lv_irem hx hb d26_Mod_feed_97 (by decide) ?_
  refine W.eq (g2 := F0 m 98 ls [.int 3, .int 24, .int a3, .int 11, .ref m_input]) rfl ?_
  refine lv_bipush (v := 8) hx hb d26_Mod_feed_98 (by decide) ?_
  refine lv_imul hx hb d26_Mod_feed_100 ?_
  refine W.eq (g2 := F0 m 101 ls [.int 24, .int 24, .int a3, .int 11, .ref m_input]) rfl ?_
  refine lv_isub hx hb d26_Mod_feed_101 ?_
  refine W.eq (g2 := F0 m 102 ls [.int 0, .int a3, .int 11, .ref m_input]) rfl ?_
  refine lv_iushr hx hb d26_Mod_feed_102 rfl ?_
  refine lv_topi (fun z34 _ => ?_)
  refine lv_i2b hx hb d26_Mod_feed_103 rfl ?_
  refine lv_topi (fun z35 _ => ?_)
  refine q_bastX C I 1 0 rfl rfl (by unfold vp_in; decide) d26_Mod_feed_104 (fun g36 H locs I => ?_)
  have I : q_I D q_cl _ s [(h0, .inr (13, [.ref m_input, .int 11, .int 0, .int 0, .int (-1), .ref m_tree, .ref m_other, .ref m_now, .ref m_spare, .ref m_circuit, .ref m_old])), (m_input, .inl (cA, 32768, .inl g36))] [(cA, .byte)] H _ := I
  refine lv_aload_n hx hb d26_Mod_feed_105 rfl (lv_at hl 2 rfl) ?_
  refine lv_dup hx hb d26_Mod_feed_106 rfl ?_
  refine q_get C I 0 1 rfl rfl i_Mod (by decide) m26_1 rfl d26_Mod_feed_107 ?_
  refine lv_iconst (v := 1) hx hb d26_Mod_feed_110 (by decide) ?_
  refine lv_iadd hx hb d26_Mod_feed_111 ?_
  refine W.eq (g2 := F0 m 112 ls [.int 12, .ref h0]) rfl ?_
  refine q_put t_Mod t_Mod_ok n_Mod C I 0 1 rfl rfl i_Mod (by decide) m26_1 rfl rfl rfl (Nat.le_of_ble_eq_true rfl) d26_Mod_feed_112 (fun H locs I => ?_)
  have I : q_I D q_cl _ s [(h0, .inr (13, [.ref m_input, .int 12, .int 0, .int 0, .int (-1), .ref m_tree, .ref m_other, .ref m_now, .ref m_spare, .ref m_circuit, .ref m_old])), (m_input, .inl (cA, 32768, .inl g36))] [(cA, .byte)] H _ := I
  refine lv_iinc (v := 12) (lv' := [(6, .int 12), (7, .int a3), (0, .ref h0), (1, .int a1), (2, .int a2), (3, .int a3), (4, .int a4), (5, .int a5)]) hx hb d26_Mod_feed_115 hl (k := 1) rfl (by decide) (by decide) rfl (fun ls hl => ?_)
  refine lv_goto (tgt := 27) hx hb d26_Mod_feed_118 (by decide) ?_
  refine lv_iload hx hb d26_Mod_feed_27 (lv_at hl 0 rfl) ?_
  refine lv_bipush (v := 20) hx hb d26_Mod_feed_29 (by decide) ?_
  refine lv_icmp_ge (tgt := 121) hx hb d26_Mod_feed_31 (by decide) (fun h => absurd h (by decide)) (fun _ => ?_)
  refine lv_iload hx hb d26_Mod_feed_34 (lv_at hl 0 rfl) ?_
  refine lv_iconst (v := 4) hx hb d26_Mod_feed_36 (by decide) ?_
  refine lv_icmp_ge (tgt := 44) hx hb d26_Mod_feed_37 (by decide) (fun _ => ?_) (fun h => absurd h (by decide))
  refine lv_iload hx hb d26_Mod_feed_44 (lv_at hl 0 rfl) ?_
  refine lv_bipush (v := 8) hx hb d26_Mod_feed_46 (by decide) ?_
  refine lv_icmp_ge (tgt := 55) hx hb d26_Mod_feed_48 (by decide) (fun _ => ?_) (fun h => absurd h (by decide))
  refine lv_iload hx hb d26_Mod_feed_55 (lv_at hl 0 rfl) ?_
  refine lv_bipush (v := 12) hx hb d26_Mod_feed_57 (by decide) ?_
  refine lv_icmp_ge (tgt := 66) hx hb d26_Mod_feed_59 (by decide) (fun _ => ?_) (fun h => absurd h (by decide))
  refine lv_iload hx hb d26_Mod_feed_66 (lv_at hl 0 rfl) ?_
  refine lv_bipush (v := 16) hx hb d26_Mod_feed_68 (by decide) ?_
  refine lv_icmp_ge (tgt := 78) hx hb d26_Mod_feed_70 (by decide) (fun h => absurd h (by decide)) (fun _ => ?_)
  refine lv_iload hx hb d26_Mod_feed_73 (lv_at hl 6 rfl) ?_
  refine lv_goto (tgt := 80) hx hb d26_Mod_feed_75 (by decide) ?_
  refine lv_istore (lv' := [(7, .int a4), (6, .int 12), (0, .ref h0), (1, .int a1), (2, .int a2), (3, .int a3), (4, .int a4), (5, .int a5)]) hx hb d26_Mod_feed_80 hl (by decide) rfl (fun ls hl => ?_)
  refine lv_aload_n hx hb d26_Mod_feed_82 rfl (lv_at hl 2 rfl) ?_
  refine q_get C I 0 0 rfl rfl i_Mod (by decide) m26_3 rfl d26_Mod_feed_83 ?_
  refine lv_aload_n hx hb d26_Mod_feed_86 rfl (lv_at hl 2 rfl) ?_
  refine q_get C I 0 1 rfl rfl i_Mod (by decide) m26_1 rfl d26_Mod_feed_87 ?_
  refine lv_iload hx hb d26_Mod_feed_90 (lv_at hl 0 rfl) ?_
  refine lv_bipush (v := 24) hx hb d26_Mod_feed_92 (by decide) ?_
  refine lv_iload hx hb d26_Mod_feed_94 (lv_at hl 1 rfl) ?_
  refine lv_iconst (v := 4) hx hb d26_Mod_feed_96 (by decide) ?_
  refine lv_irem hx hb d26_Mod_feed_97 (by decide) ?_
  refine W.eq (g2 := F0 m 98 ls [.int 0, .int 24, .int a4, .int 12, .ref m_input]) rfl ?_
  refine lv_bipush (v := 8) hx hb d26_Mod_feed_98 (by decide) ?_
  refine lv_imul hx hb d26_Mod_feed_100 ?_
  refine W.eq (g2 := F0 m 101 ls [.int 0, .int 24, .int a4, .int 12, .ref m_input]) rfl ?_
  refine lv_isub hx hb d26_Mod_feed_101 ?_
  refine W.eq (g2 := F0 m 102 ls [.int 24, .int a4, .int 12, .ref m_input]) rfl ?_
  refine lv_iushr hx hb d26_Mod_feed_102 rfl ?_
  refine lv_topi (fun z37 _ => ?_)
  refine lv_i2b hx hb d26_Mod_feed_103 rfl ?_
  refine lv_topi (fun z38 _ => ?_)
  refine q_bastX C I 1 0 rfl rfl (by unfold vp_in; decide) d26_Mod_feed_104 (fun g39 H locs I => ?_)
  have I : q_I D q_cl _ s [(h0, .inr (13, [.ref m_input, .int 12, .int 0, .int 0, .int (-1), .ref m_tree, .ref m_other, .ref m_now, .ref m_spare, .ref m_circuit, .ref m_old])), (m_input, .inl (cA, 32768, .inl g39))] [(cA, .byte)] H _ := I
  refine lv_aload_n hx hb d26_Mod_feed_105 rfl (lv_at hl 2 rfl) ?_
  refine lv_dup hx hb d26_Mod_feed_106 rfl ?_
  refine q_get C I 0 1 rfl rfl i_Mod (by decide) m26_1 rfl d26_Mod_feed_107 ?_
  refine lv_iconst (v := 1) hx hb d26_Mod_feed_110 (by decide) ?_
  refine lv_iadd hx hb d26_Mod_feed_111 ?_
  refine W.eq (g2 := F0 m 112 ls [.int 13, .ref h0]) rfl ?_
  refine q_put t_Mod t_Mod_ok n_Mod C I 0 1 rfl rfl i_Mod (by decide) m26_1 rfl rfl rfl (Nat.le_of_ble_eq_true rfl) d26_Mod_feed_112 (fun H locs I => ?_)
  have I : q_I D q_cl _ s [(h0, .inr (13, [.ref m_input, .int 13, .int 0, .int 0, .int (-1), .ref m_tree, .ref m_other, .ref m_now, .ref m_spare, .ref m_circuit, .ref m_old])), (m_input, .inl (cA, 32768, .inl g39))] [(cA, .byte)] H _ := I
  refine lv_iinc (v := 13) (lv' := [(6, .int 13), (7, .int a4), (0, .ref h0), (1, .int a1), (2, .int a2), (3, .int a3), (4, .int a4), (5, .int a5)]) hx hb d26_Mod_feed_115 hl (k := 1) rfl (by decide) (by decide) rfl (fun ls hl => ?_)
  refine lv_goto (tgt := 27) hx hb d26_Mod_feed_118 (by decide) ?_
  refine lv_iload hx hb d26_Mod_feed_27 (lv_at hl 0 rfl) ?_
  refine lv_bipush (v := 20) hx hb d26_Mod_feed_29 (by decide) ?_
  refine lv_icmp_ge (tgt := 121) hx hb d26_Mod_feed_31 (by decide) (fun h => absurd h (by decide)) (fun _ => ?_)
  refine lv_iload hx hb d26_Mod_feed_34 (lv_at hl 0 rfl) ?_
  refine lv_iconst (v := 4) hx hb d26_Mod_feed_36 (by decide) ?_
  refine lv_icmp_ge (tgt := 44) hx hb d26_Mod_feed_37 (by decide) (fun _ => ?_) (fun h => absurd h (by decide))
  refine lv_iload hx hb d26_Mod_feed_44 (lv_at hl 0 rfl) ?_
  refine lv_bipush (v := 8) hx hb d26_Mod_feed_46 (by decide) ?_
  refine lv_icmp_ge (tgt := 55) hx hb d26_Mod_feed_48 (by decide) (fun _ => ?_) (fun h => absurd h (by decide))
  refine lv_iload hx hb d26_Mod_feed_55 (lv_at hl 0 rfl) ?_
  refine lv_bipush (v := 12) hx hb d26_Mod_feed_57 (by decide) ?_
  refine lv_icmp_ge (tgt := 66) hx hb d26_Mod_feed_59 (by decide) (fun _ => ?_) (fun h => absurd h (by decide))
  refine lv_iload hx hb d26_Mod_feed_66 (lv_at hl 0 rfl) ?_
  refine lv_bipush (v := 16) hx hb d26_Mod_feed_68 (by decide) ?_
  refine lv_icmp_ge (tgt := 78) hx hb d26_Mod_feed_70 (by decide) (fun h => absurd h (by decide)) (fun _ => ?_)
  refine lv_iload hx hb d26_Mod_feed_73 (lv_at hl 6 rfl) ?_
  refine lv_goto (tgt := 80) hx hb d26_Mod_feed_75 (by decide) ?_
  refine lv_istore (lv' := [(7, .int a4), (6, .int 13), (0, .ref h0), (1, .int a1), (2, .int a2), (3, .int a3), (4, .int a4), (5, .int a5)]) hx hb d26_Mod_feed_80 hl (by decide) rfl (fun ls hl => ?_)
  refine lv_aload_n hx hb d26_Mod_feed_82 rfl (lv_at hl 2 rfl) ?_
  refine q_get C I 0 0 rfl rfl i_Mod (by decide) m26_3 rfl d26_Mod_feed_83 ?_
  refine lv_aload_n hx hb d26_Mod_feed_86 rfl (lv_at hl 2 rfl) ?_
  refine q_get C I 0 1 rfl rfl i_Mod (by decide) m26_1 rfl d26_Mod_feed_87 ?_
  refine lv_iload hx hb d26_Mod_feed_90 (lv_at hl 0 rfl) ?_
  refine lv_bipush (v := 24) hx hb d26_Mod_feed_92 (by decide) ?_
  refine lv_iload hx hb d26_Mod_feed_94 (lv_at hl 1 rfl) ?_
  refine lv_iconst (v := 4) hx hb d26_Mod_feed_96 (by decide) ?_
  refine lv_irem hx hb d26_Mod_feed_97 (by decide) ?_
  refine W.eq (g2 := F0 m 98 ls [.int 1, .int 24, .int a4, .int 13, .ref m_input]) rfl ?_
  refine lv_bipush (v := 8) hx hb d26_Mod_feed_98 (by decide) ?_
  refine lv_imul hx hb d26_Mod_feed_100 ?_
  refine W.eq (g2 := F0 m 101 ls [.int 8, .int 24, .int a4, .int 13, .ref m_input]) rfl ?_
  refine lv_isub hx hb d26_Mod_feed_101 ?_
  refine W.eq (g2 := F0 m 102 ls [.int 16, .int a4, .int 13, .ref m_input]) rfl ?_
  refine lv_iushr hx hb d26_Mod_feed_102 rfl ?_
  refine lv_topi (fun z40 _ => ?_)
  refine lv_i2b hx hb d26_Mod_feed_103 rfl ?_
  refine lv_topi (fun z41 _ => ?_)
  refine q_bastX C I 1 0 rfl rfl (by unfold vp_in; decide) d26_Mod_feed_104 (fun g42 H locs I => ?_)
  have I : q_I D q_cl _ s [(h0, .inr (13, [.ref m_input, .int 13, .int 0, .int 0, .int (-1), .ref m_tree, .ref m_other, .ref m_now, .ref m_spare, .ref m_circuit, .ref m_old])), (m_input, .inl (cA, 32768, .inl g42))] [(cA, .byte)] H _ := I
  refine lv_aload_n hx hb d26_Mod_feed_105 rfl (lv_at hl 2 rfl) ?_
  refine lv_dup hx hb d26_Mod_feed_106 rfl ?_
  refine q_get C I 0 1 rfl rfl i_Mod (by decide) m26_1 rfl d26_Mod_feed_107 ?_
  refine lv_iconst (v := 1) hx hb d26_Mod_feed_110 (by decide) ?_
  refine lv_iadd hx hb d26_Mod_feed_111 ?_
  refine W.eq (g2 := F0 m 112 ls [.int 14, .ref h0]) rfl ?_
  refine q_put t_Mod t_Mod_ok n_Mod C I 0 1 rfl rfl i_Mod (by decide) m26_1 rfl rfl rfl (Nat.le_of_ble_eq_true rfl) d26_Mod_feed_112 (fun H locs I => ?_)
  have I : q_I D q_cl _ s [(h0, .inr (13, [.ref m_input, .int 14, .int 0, .int 0, .int (-1), .ref m_tree, .ref m_other, .ref m_now, .ref m_spare, .ref m_circuit, .ref m_old])), (m_input, .inl (cA, 32768, .inl g42))] [(cA, .byte)] H _ := I
  refine lv_iinc (v := 14) (lv' := [(6, .int 14), (7, .int a4), (0, .ref h0), (1, .int a1), (2, .int a2), (3, .int a3), (4, .int a4), (5, .int a5)]) hx hb d26_Mod_feed_115 hl (k := 1) rfl (by decide) (by decide) rfl (fun ls hl => ?_)
  refine lv_goto (tgt := 27) hx hb d26_Mod_feed_118 (by decide) ?_
  refine lv_iload hx hb d26_Mod_feed_27 (lv_at hl 0 rfl) ?_
  refine lv_bipush (v := 20) hx hb d26_Mod_feed_29 (by decide) ?_
  refine lv_icmp_ge (tgt := 121) hx hb d26_Mod_feed_31 (by decide) (fun h => absurd h (by decide)) (fun _ => ?_)
  refine lv_iload hx hb d26_Mod_feed_34 (lv_at hl 0 rfl) ?_
  refine lv_iconst (v := 4) hx hb d26_Mod_feed_36 (by decide) ?_
  refine lv_icmp_ge (tgt := 44) hx hb d26_Mod_feed_37 (by decide) (fun _ => ?_) (fun h => absurd h (by decide))
  refine lv_iload hx hb d26_Mod_feed_44 (lv_at hl 0 rfl) ?_
  refine lv_bipush (v := 8) hx hb d26_Mod_feed_46 (by decide) ?_
  refine lv_icmp_ge (tgt := 55) hx hb d26_Mod_feed_48 (by decide) (fun _ => ?_) (fun h => absurd h (by decide))
  refine lv_iload hx hb d26_Mod_feed_55 (lv_at hl 0 rfl) ?_
  refine lv_bipush (v := 12) hx hb d26_Mod_feed_57 (by decide) ?_
  refine lv_icmp_ge (tgt := 66) hx hb d26_Mod_feed_59 (by decide) (fun _ => ?_) (fun h => absurd h (by decide))
  refine lv_iload hx hb d26_Mod_feed_66 (lv_at hl 0 rfl) ?_
  refine lv_bipush (v := 16) hx hb d26_Mod_feed_68 (by decide) ?_
  refine lv_icmp_ge (tgt := 78) hx hb d26_Mod_feed_70 (by decide) (fun h => absurd h (by decide)) (fun _ => ?_)
  refine lv_iload hx hb d26_Mod_feed_73 (lv_at hl 6 rfl) ?_
  refine lv_goto (tgt := 80) hx hb d26_Mod_feed_75 (by decide) ?_
  refine lv_istore (lv' := [(7, .int a4), (6, .int 14), (0, .ref h0), (1, .int a1), (2, .int a2), (3, .int a3), (4, .int a4), (5, .int a5)]) hx hb d26_Mod_feed_80 hl (by decide) rfl (fun ls hl => ?_)
  refine lv_aload_n hx hb d26_Mod_feed_82 rfl (lv_at hl 2 rfl) ?_
  refine q_get C I 0 0 rfl rfl i_Mod (by decide) m26_3 rfl d26_Mod_feed_83 ?_
  refine lv_aload_n hx hb d26_Mod_feed_86 rfl (lv_at hl 2 rfl) ?_
  refine q_get C I 0 1 rfl rfl i_Mod (by decide) m26_1 rfl d26_Mod_feed_87 ?_
  refine lv_iload hx hb d26_Mod_feed_90 (lv_at hl 0 rfl) ?_
  refine lv_bipush (v := 24) hx hb d26_Mod_feed_92 (by decide) ?_
  refine lv_iload hx hb d26_Mod_feed_94 (lv_at hl 1 rfl) ?_
  refine lv_iconst (v := 4) hx hb d26_Mod_feed_96 (by decide) ?_
  refine lv_irem hx hb d26_Mod_feed_97 (by decide) ?_
  refine W.eq (g2 := F0 m 98 ls [.int 2, .int 24, .int a4, .int 14, .ref m_input]) rfl ?_
  refine lv_bipush (v := 8) hx hb d26_Mod_feed_98 (by decide) ?_
  refine lv_imul hx hb d26_Mod_feed_100 ?_
  refine W.eq (g2 := F0 m 101 ls [.int 16, .int 24, .int a4, .int 14, .ref m_input]) rfl ?_
  refine lv_isub hx hb d26_Mod_feed_101 ?_
  refine W.eq (g2 := F0 m 102 ls [.int 8, .int a4, .int 14, .ref m_input]) rfl ?_
  refine lv_iushr hx hb d26_Mod_feed_102 rfl ?_
  refine lv_topi (fun z43 _ => ?_)
  refine lv_i2b hx hb d26_Mod_feed_103 rfl ?_
  refine lv_topi (fun z44 _ => ?_)
  refine q_bastX C I 1 0 rfl rfl (by unfold vp_in; decide) d26_Mod_feed_104 (fun g45 H locs I => ?_)
  have I : q_I D q_cl _ s [(h0, .inr (13, [.ref m_input, .int 14, .int 0, .int 0, .int (-1), .ref m_tree, .ref m_other, .ref m_now, .ref m_spare, .ref m_circuit, .ref m_old])), (m_input, .inl (cA, 32768, .inl g45))] [(cA, .byte)] H _ := I
  refine lv_aload_n hx hb d26_Mod_feed_105 rfl (lv_at hl 2 rfl) ?_
  refine lv_dup hx hb d26_Mod_feed_106 rfl ?_
  refine q_get C I 0 1 rfl rfl i_Mod (by decide) m26_1 rfl d26_Mod_feed_107 ?_
  refine lv_iconst (v := 1) hx hb d26_Mod_feed_110 (by decide) ?_
  refine lv_iadd hx hb d26_Mod_feed_111 ?_
  refine W.eq (g2 := F0 m 112 ls [.int 15, .ref h0]) rfl ?_
  refine q_put t_Mod t_Mod_ok n_Mod C I 0 1 rfl rfl i_Mod (by decide) m26_1 rfl rfl rfl (Nat.le_of_ble_eq_true rfl) d26_Mod_feed_112 (fun H locs I => ?_)
  have I : q_I D q_cl _ s [(h0, .inr (13, [.ref m_input, .int 15, .int 0, .int 0, .int (-1), .ref m_tree, .ref m_other, .ref m_now, .ref m_spare, .ref m_circuit, .ref m_old])), (m_input, .inl (cA, 32768, .inl g45))] [(cA, .byte)] H _ := I
  refine lv_iinc (v := 15) (lv' := [(6, .int 15), (7, .int a4), (0, .ref h0), (1, .int a1), (2, .int a2), (3, .int a3), (4, .int a4), (5, .int a5)]) hx hb d26_Mod_feed_115 hl (k := 1) rfl (by decide) (by decide) rfl (fun ls hl => ?_)
  refine lv_goto (tgt := 27) hx hb d26_Mod_feed_118 (by decide) ?_
  refine lv_iload hx hb d26_Mod_feed_27 (lv_at hl 0 rfl) ?_
  refine lv_bipush (v := 20) hx hb d26_Mod_feed_29 (by decide) ?_
  refine lv_icmp_ge (tgt := 121) hx hb d26_Mod_feed_31 (by decide) (fun h => absurd h (by decide)) (fun _ => ?_)
  refine lv_iload hx hb d26_Mod_feed_34 (lv_at hl 0 rfl) ?_
  refine lv_iconst (v := 4) hx hb d26_Mod_feed_36 (by decide) ?_
  refine lv_icmp_ge (tgt := 44) hx hb d26_Mod_feed_37 (by decide) (fun _ => ?_) (fun h => absurd h (by decide))
  refine lv_iload hx hb d26_Mod_feed_44 (lv_at hl 0 rfl) ?_
  refine lv_bipush (v := 8) hx hb d26_Mod_feed_46 (by decide) ?_
  refine lv_icmp_ge (tgt := 55) hx hb d26_Mod_feed_48 (by decide) (fun _ => ?_) (fun h => absurd h (by decide))
  refine lv_iload hx hb d26_Mod_feed_55 (lv_at hl 0 rfl) ?_
  refine lv_bipush (v := 12) hx hb d26_Mod_feed_57 (by decide) ?_
  refine lv_icmp_ge (tgt := 66) hx hb d26_Mod_feed_59 (by decide) (fun _ => ?_) (fun h => absurd h (by decide))
  refine lv_iload hx hb d26_Mod_feed_66 (lv_at hl 0 rfl) ?_
  refine lv_bipush (v := 16) hx hb d26_Mod_feed_68 (by decide) ?_
  refine lv_icmp_ge (tgt := 78) hx hb d26_Mod_feed_70 (by decide) (fun h => absurd h (by decide)) (fun _ => ?_)
  refine lv_iload hx hb d26_Mod_feed_73 (lv_at hl 6 rfl) ?_
  refine lv_goto (tgt := 80) hx hb d26_Mod_feed_75 (by decide) ?_
  refine lv_istore (lv' := [(7, .int a4), (6, .int 15), (0, .ref h0), (1, .int a1), (2, .int a2), (3, .int a3), (4, .int a4), (5, .int a5)]) hx hb d26_Mod_feed_80 hl (by decide) rfl (fun ls hl => ?_)
  refine lv_aload_n hx hb d26_Mod_feed_82 rfl (lv_at hl 2 rfl) ?_
  refine q_get C I 0 0 rfl rfl i_Mod (by decide) m26_3 rfl d26_Mod_feed_83 ?_
  refine lv_aload_n hx hb d26_Mod_feed_86 rfl (lv_at hl 2 rfl) ?_
  refine q_get C I 0 1 rfl rfl i_Mod (by decide) m26_1 rfl d26_Mod_feed_87 ?_
  refine lv_iload hx hb d26_Mod_feed_90 (lv_at hl 0 rfl) ?_
  refine lv_bipush (v := 24) hx hb d26_Mod_feed_92 (by decide) ?_
  refine lv_iload hx hb d26_Mod_feed_94 (lv_at hl 1 rfl) ?_
  refine lv_iconst (v := 4) hx hb d26_Mod_feed_96 (by decide) ?_
  refine lv_irem hx hb d26_Mod_feed_97 (by decide) ?_
  refine W.eq (g2 := F0 m 98 ls [.int 3, .int 24, .int a4, .int 15, .ref m_input]) rfl ?_
  refine lv_bipush (v := 8) hx hb d26_Mod_feed_98 (by decide) ?_
  refine lv_imul hx hb d26_Mod_feed_100 ?_
  refine W.eq (g2 := F0 m 101 ls [.int 24, .int 24, .int a4, .int 15, .ref m_input]) rfl ?_
  refine lv_isub hx hb d26_Mod_feed_101 ?_
  refine W.eq (g2 := F0 m 102 ls [.int 0, .int a4, .int 15, .ref m_input]) rfl ?_
  refine lv_iushr hx hb d26_Mod_feed_102 rfl ?_
  refine lv_topi (fun z46 _ => ?_)
  refine lv_i2b hx hb d26_Mod_feed_103 rfl ?_
  refine lv_topi (fun z47 _ => ?_)
  refine q_bastX C I 1 0 rfl rfl (by unfold vp_in; decide) d26_Mod_feed_104 (fun g48 H locs I => ?_)
  have I : q_I D q_cl _ s [(h0, .inr (13, [.ref m_input, .int 15, .int 0, .int 0, .int (-1), .ref m_tree, .ref m_other, .ref m_now, .ref m_spare, .ref m_circuit, .ref m_old])), (m_input, .inl (cA, 32768, .inl g48))] [(cA, .byte)] H _ := I
  refine lv_aload_n hx hb d26_Mod_feed_105 rfl (lv_at hl 2 rfl) ?_
  refine lv_dup hx hb d26_Mod_feed_106 rfl ?_
  refine q_get C I 0 1 rfl rfl i_Mod (by decide) m26_1 rfl d26_Mod_feed_107 ?_
  refine lv_iconst (v := 1) hx hb d26_Mod_feed_110 (by decide) ?_
  refine lv_iadd hx hb d26_Mod_feed_111 ?_
  refine W.eq (g2 := F0 m 112 ls [.int 16, .ref h0]) rfl ?_
  refine q_put t_Mod t_Mod_ok n_Mod C I 0 1 rfl rfl i_Mod (by decide) m26_1 rfl rfl rfl (Nat.le_of_ble_eq_true rfl) d26_Mod_feed_112 (fun H locs I => ?_)
  have I : q_I D q_cl _ s [(h0, .inr (13, [.ref m_input, .int 16, .int 0, .int 0, .int (-1), .ref m_tree, .ref m_other, .ref m_now, .ref m_spare, .ref m_circuit, .ref m_old])), (m_input, .inl (cA, 32768, .inl g48))] [(cA, .byte)] H _ := I
  refine lv_iinc (v := 16) (lv' := [(6, .int 16), (7, .int a4), (0, .ref h0), (1, .int a1), (2, .int a2), (3, .int a3), (4, .int a4), (5, .int a5)]) hx hb d26_Mod_feed_115 hl (k := 1) rfl (by decide) (by decide) rfl (fun ls hl => ?_)
  refine lv_goto (tgt := 27) hx hb d26_Mod_feed_118 (by decide) ?_
  refine lv_iload hx hb d26_Mod_feed_27 (lv_at hl 0 rfl) ?_
  refine lv_bipush (v := 20) hx hb d26_Mod_feed_29 (by decide) ?_
  refine lv_icmp_ge (tgt := 121) hx hb d26_Mod_feed_31 (by decide) (fun h => absurd h (by decide)) (fun _ => ?_)
  refine lv_iload hx hb d26_Mod_feed_34 (lv_at hl 0 rfl) ?_
  refine lv_iconst (v := 4) hx hb d26_Mod_feed_36 (by decide) ?_
  refine lv_icmp_ge (tgt := 44) hx hb d26_Mod_feed_37 (by decide) (fun _ => ?_) (fun h => absurd h (by decide))
  refine lv_iload hx hb d26_Mod_feed_44 (lv_at hl 0 rfl) ?_
  refine lv_bipush (v := 8) hx hb d26_Mod_feed_46 (by decide) ?_
  refine lv_icmp_ge (tgt := 55) hx hb d26_Mod_feed_48 (by decide) (fun _ => ?_) (fun h => absurd h (by decide))
  refine lv_iload hx hb d26_Mod_feed_55 (lv_at hl 0 rfl) ?_
  refine lv_bipush (v := 12) hx hb d26_Mod_feed_57 (by decide) ?_
  refine lv_icmp_ge (tgt := 66) hx hb d26_Mod_feed_59 (by decide) (fun _ => ?_) (fun h => absurd h (by decide))
  refine lv_iload hx hb d26_Mod_feed_66 (lv_at hl 0 rfl) ?_
  refine lv_bipush (v := 16) hx hb d26_Mod_feed_68 (by decide) ?_
  refine lv_icmp_ge (tgt := 78) hx hb d26_Mod_feed_70 (by decide) (fun _ => ?_) (fun h => absurd h (by decide))
  refine lv_iload hx hb d26_Mod_feed_78 (lv_at hl 7 rfl) ?_
  refine lv_istore (lv' := [(7, .int a5), (6, .int 16), (0, .ref h0), (1, .int a1), (2, .int a2), (3, .int a3), (4, .int a4), (5, .int a5)]) hx hb d26_Mod_feed_80 hl (by decide) rfl (fun ls hl => ?_)
  refine lv_aload_n hx hb d26_Mod_feed_82 rfl (lv_at hl 2 rfl) ?_
  refine q_get C I 0 0 rfl rfl i_Mod (by decide) m26_3 rfl d26_Mod_feed_83 ?_
  refine lv_aload_n hx hb d26_Mod_feed_86 rfl (lv_at hl 2 rfl) ?_
  refine q_get C I 0 1 rfl rfl i_Mod (by decide) m26_1 rfl d26_Mod_feed_87 ?_
  refine lv_iload hx hb d26_Mod_feed_90 (lv_at hl 0 rfl) ?_
  refine lv_bipush (v := 24) hx hb d26_Mod_feed_92 (by decide) ?_
  refine lv_iload hx hb d26_Mod_feed_94 (lv_at hl 1 rfl) ?_
  refine lv_iconst (v := 4) hx hb d26_Mod_feed_96 (by decide) ?_
  refine lv_irem hx hb d26_Mod_feed_97 (by decide) ?_
  refine W.eq (g2 := F0 m 98 ls [.int 0, .int 24, .int a5, .int 16, .ref m_input]) rfl ?_
  refine lv_bipush (v := 8) hx hb d26_Mod_feed_98 (by decide) ?_
  refine lv_imul hx hb d26_Mod_feed_100 ?_
  refine W.eq (g2 := F0 m 101 ls [.int 0, .int 24, .int a5, .int 16, .ref m_input]) rfl ?_
  refine lv_isub hx hb d26_Mod_feed_101 ?_
  refine W.eq (g2 := F0 m 102 ls [.int 24, .int a5, .int 16, .ref m_input]) rfl ?_
  refine lv_iushr hx hb d26_Mod_feed_102 rfl ?_
  refine lv_topi (fun z49 _ => ?_)
  refine lv_i2b hx hb d26_Mod_feed_103 rfl ?_
  refine lv_topi (fun z50 _ => ?_)
  refine q_bastX C I 1 0 rfl rfl (by unfold vp_in; decide) d26_Mod_feed_104 (fun g51 H locs I => ?_)
  have I : q_I D q_cl _ s [(h0, .inr (13, [.ref m_input, .int 16, .int 0, .int 0, .int (-1), .ref m_tree, .ref m_other, .ref m_now, .ref m_spare, .ref m_circuit, .ref m_old])), (m_input, .inl (cA, 32768, .inl g51))] [(cA, .byte)] H _ := I
  refine lv_aload_n hx hb d26_Mod_feed_105 rfl (lv_at hl 2 rfl) ?_
  refine lv_dup hx hb d26_Mod_feed_106 rfl ?_
  refine q_get C I 0 1 rfl rfl i_Mod (by decide) m26_1 rfl d26_Mod_feed_107 ?_
  refine lv_iconst (v := 1) hx hb d26_Mod_feed_110 (by decide) ?_
  refine lv_iadd hx hb d26_Mod_feed_111 ?_
  refine W.eq (g2 := F0 m 112 ls [.int 17, .ref h0]) rfl ?_
  refine q_put t_Mod t_Mod_ok n_Mod C I 0 1 rfl rfl i_Mod (by decide) m26_1 rfl rfl rfl (Nat.le_of_ble_eq_true rfl) d26_Mod_feed_112 (fun H locs I => ?_)
  have I : q_I D q_cl _ s [(h0, .inr (13, [.ref m_input, .int 17, .int 0, .int 0, .int (-1), .ref m_tree, .ref m_other, .ref m_now, .ref m_spare, .ref m_circuit, .ref m_old])), (m_input, .inl (cA, 32768, .inl g51))] [(cA, .byte)] H _ := I
  refine lv_iinc (v := 17) (lv' := [(6, .int 17), (7, .int a5), (0, .ref h0), (1, .int a1), (2, .int a2), (3, .int a3), (4, .int a4), (5, .int a5)]) hx hb d26_Mod_feed_115 hl (k := 1) rfl (by decide) (by decide) rfl (fun ls hl => ?_)
  refine lv_goto (tgt := 27) hx hb d26_Mod_feed_118 (by decide) ?_
  refine lv_iload hx hb d26_Mod_feed_27 (lv_at hl 0 rfl) ?_
  refine lv_bipush (v := 20) hx hb d26_Mod_feed_29 (by decide) ?_
  refine lv_icmp_ge (tgt := 121) hx hb d26_Mod_feed_31 (by decide) (fun h => absurd h (by decide)) (fun _ => ?_)
  refine lv_iload hx hb d26_Mod_feed_34 (lv_at hl 0 rfl) ?_
  refine lv_iconst (v := 4) hx hb d26_Mod_feed_36 (by decide) ?_
  refine lv_icmp_ge (tgt := 44) hx hb d26_Mod_feed_37 (by decide) (fun _ => ?_) (fun h => absurd h (by decide))
  refine lv_iload hx hb d26_Mod_feed_44 (lv_at hl 0 rfl) ?_
  refine lv_bipush (v := 8) hx hb d26_Mod_feed_46 (by decide) ?_
  refine lv_icmp_ge (tgt := 55) hx hb d26_Mod_feed_48 (by decide) (fun _ => ?_) (fun h => absurd h (by decide))
  refine lv_iload hx hb d26_Mod_feed_55 (lv_at hl 0 rfl) ?_
  refine lv_bipush (v := 12) hx hb d26_Mod_feed_57 (by decide) ?_
  refine lv_icmp_ge (tgt := 66) hx hb d26_Mod_feed_59 (by decide) (fun _ => ?_) (fun h => absurd h (by decide))
  refine lv_iload hx hb d26_Mod_feed_66 (lv_at hl 0 rfl) ?_
  refine lv_bipush (v := 16) hx hb d26_Mod_feed_68 (by decide) ?_
  refine lv_icmp_ge (tgt := 78) hx hb d26_Mod_feed_70 (by decide) (fun _ => ?_) (fun h => absurd h (by decide))
  refine lv_iload hx hb d26_Mod_feed_78 (lv_at hl 7 rfl) ?_
  refine lv_istore (lv' := [(7, .int a5), (6, .int 17), (0, .ref h0), (1, .int a1), (2, .int a2), (3, .int a3), (4, .int a4), (5, .int a5)]) hx hb d26_Mod_feed_80 hl (by decide) rfl (fun ls hl => ?_)
  refine lv_aload_n hx hb d26_Mod_feed_82 rfl (lv_at hl 2 rfl) ?_
  refine q_get C I 0 0 rfl rfl i_Mod (by decide) m26_3 rfl d26_Mod_feed_83 ?_
  refine lv_aload_n hx hb d26_Mod_feed_86 rfl (lv_at hl 2 rfl) ?_
  refine q_get C I 0 1 rfl rfl i_Mod (by decide) m26_1 rfl d26_Mod_feed_87 ?_
  refine lv_iload hx hb d26_Mod_feed_90 (lv_at hl 0 rfl) ?_
  refine lv_bipush (v := 24) hx hb d26_Mod_feed_92 (by decide) ?_
  refine lv_iload hx hb d26_Mod_feed_94 (lv_at hl 1 rfl) ?_
  refine lv_iconst (v := 4) hx hb d26_Mod_feed_96 (by decide) ?_
  refine lv_irem hx hb d26_Mod_feed_97 (by decide) ?_
  refine W.eq (g2 := F0 m 98 ls [.int 1, .int 24, .int a5, .int 17, .ref m_input]) rfl ?_
  refine lv_bipush (v := 8) hx hb d26_Mod_feed_98 (by decide) ?_
  refine lv_imul hx hb d26_Mod_feed_100 ?_
  refine W.eq (g2 := F0 m 101 ls [.int 8, .int 24, .int a5, .int 17, .ref m_input]) rfl ?_
  refine lv_isub hx hb d26_Mod_feed_101 ?_
  refine W.eq (g2 := F0 m 102 ls [.int 16, .int a5, .int 17, .ref m_input]) rfl ?_
  refine lv_iushr hx hb d26_Mod_feed_102 rfl ?_
  refine lv_topi (fun z52 _ => ?_)
  refine lv_i2b hx hb d26_Mod_feed_103 rfl ?_
  refine lv_topi (fun z53 _ => ?_)
  refine q_bastX C I 1 0 rfl rfl (by unfold vp_in; decide) d26_Mod_feed_104 (fun g54 H locs I => ?_)
  have I : q_I D q_cl _ s [(h0, .inr (13, [.ref m_input, .int 17, .int 0, .int 0, .int (-1), .ref m_tree, .ref m_other, .ref m_now, .ref m_spare, .ref m_circuit, .ref m_old])), (m_input, .inl (cA, 32768, .inl g54))] [(cA, .byte)] H _ := I
  refine lv_aload_n hx hb d26_Mod_feed_105 rfl (lv_at hl 2 rfl) ?_
  refine lv_dup hx hb d26_Mod_feed_106 rfl ?_
  refine q_get C I 0 1 rfl rfl i_Mod (by decide) m26_1 rfl d26_Mod_feed_107 ?_
  refine lv_iconst (v := 1) hx hb d26_Mod_feed_110 (by decide) ?_
  refine lv_iadd hx hb d26_Mod_feed_111 ?_
  refine W.eq (g2 := F0 m 112 ls [.int 18, .ref h0]) rfl ?_
  refine q_put t_Mod t_Mod_ok n_Mod C I 0 1 rfl rfl i_Mod (by decide) m26_1 rfl rfl rfl (Nat.le_of_ble_eq_true rfl) d26_Mod_feed_112 (fun H locs I => ?_)
  have I : q_I D q_cl _ s [(h0, .inr (13, [.ref m_input, .int 18, .int 0, .int 0, .int (-1), .ref m_tree, .ref m_other, .ref m_now, .ref m_spare, .ref m_circuit, .ref m_old])), (m_input, .inl (cA, 32768, .inl g54))] [(cA, .byte)] H _ := I
  refine lv_iinc (v := 18) (lv' := [(6, .int 18), (7, .int a5), (0, .ref h0), (1, .int a1), (2, .int a2), (3, .int a3), (4, .int a4), (5, .int a5)]) hx hb d26_Mod_feed_115 hl (k := 1) rfl (by decide) (by decide) rfl (fun ls hl => ?_)
  refine lv_goto (tgt := 27) hx hb d26_Mod_feed_118 (by decide) ?_
  refine lv_iload hx hb d26_Mod_feed_27 (lv_at hl 0 rfl) ?_
  refine lv_bipush (v := 20) hx hb d26_Mod_feed_29 (by decide) ?_
  refine lv_icmp_ge (tgt := 121) hx hb d26_Mod_feed_31 (by decide) (fun h => absurd h (by decide)) (fun _ => ?_)
  refine lv_iload hx hb d26_Mod_feed_34 (lv_at hl 0 rfl) ?_
  refine lv_iconst (v := 4) hx hb d26_Mod_feed_36 (by decide) ?_
  refine lv_icmp_ge (tgt := 44) hx hb d26_Mod_feed_37 (by decide) (fun _ => ?_) (fun h => absurd h (by decide))
  refine lv_iload hx hb d26_Mod_feed_44 (lv_at hl 0 rfl) ?_
  refine lv_bipush (v := 8) hx hb d26_Mod_feed_46 (by decide) ?_
  refine lv_icmp_ge (tgt := 55) hx hb d26_Mod_feed_48 (by decide) (fun _ => ?_) (fun h => absurd h (by decide))
  refine lv_iload hx hb d26_Mod_feed_55 (lv_at hl 0 rfl) ?_
  refine lv_bipush (v := 12) hx hb d26_Mod_feed_57 (by decide) ?_
  refine lv_icmp_ge (tgt := 66) hx hb d26_Mod_feed_59 (by decide) (fun _ => ?_) (fun h => absurd h (by decide))
  refine lv_iload hx hb d26_Mod_feed_66 (lv_at hl 0 rfl) ?_
  refine lv_bipush (v := 16) hx hb d26_Mod_feed_68 (by decide) ?_
  refine lv_icmp_ge (tgt := 78) hx hb d26_Mod_feed_70 (by decide) (fun _ => ?_) (fun h => absurd h (by decide))
  refine lv_iload hx hb d26_Mod_feed_78 (lv_at hl 7 rfl) ?_
  refine lv_istore (lv' := [(7, .int a5), (6, .int 18), (0, .ref h0), (1, .int a1), (2, .int a2), (3, .int a3), (4, .int a4), (5, .int a5)]) hx hb d26_Mod_feed_80 hl (by decide) rfl (fun ls hl => ?_)
  refine lv_aload_n hx hb d26_Mod_feed_82 rfl (lv_at hl 2 rfl) ?_
  refine q_get C I 0 0 rfl rfl i_Mod (by decide) m26_3 rfl d26_Mod_feed_83 ?_
  refine lv_aload_n hx hb d26_Mod_feed_86 rfl (lv_at hl 2 rfl) ?_
  refine q_get C I 0 1 rfl rfl i_Mod (by decide) m26_1 rfl d26_Mod_feed_87 ?_
  refine lv_iload hx hb d26_Mod_feed_90 (lv_at hl 0 rfl) ?_
  refine lv_bipush (v := 24) hx hb d26_Mod_feed_92 (by decide) ?_
  refine lv_iload hx hb d26_Mod_feed_94 (lv_at hl 1 rfl) ?_
  refine lv_iconst (v := 4) hx hb d26_Mod_feed_96 (by decide) ?_
  refine lv_irem hx hb d26_Mod_feed_97 (by decide) ?_
  refine W.eq (g2 := F0 m 98 ls [.int 2, .int 24, .int a5, .int 18, .ref m_input]) rfl ?_
  refine lv_bipush (v := 8) hx hb d26_Mod_feed_98 (by decide) ?_
  refine lv_imul hx hb d26_Mod_feed_100 ?_
  refine W.eq (g2 := F0 m 101 ls [.int 16, .int 24, .int a5, .int 18, .ref m_input]) rfl ?_
  refine lv_isub hx hb d26_Mod_feed_101 ?_
  refine W.eq (g2 := F0 m 102 ls [.int 8, .int a5, .int 18, .ref m_input]) rfl ?_
  refine lv_iushr hx hb d26_Mod_feed_102 rfl ?_
  refine lv_topi (fun z55 _ => ?_)
  refine lv_i2b hx hb d26_Mod_feed_103 rfl ?_
  refine lv_topi (fun z56 _ => ?_)
  refine q_bastX C I 1 0 rfl rfl (by unfold vp_in; decide) d26_Mod_feed_104 (fun g57 H locs I => ?_)
  have I : q_I D q_cl _ s [(h0, .inr (13, [.ref m_input, .int 18, .int 0, .int 0, .int (-1), .ref m_tree, .ref m_other, .ref m_now, .ref m_spare, .ref m_circuit, .ref m_old])), (m_input, .inl (cA, 32768, .inl g57))] [(cA, .byte)] H _ := I
  refine lv_aload_n hx hb d26_Mod_feed_105 rfl (lv_at hl 2 rfl) ?_
  refine lv_dup hx hb d26_Mod_feed_106 rfl ?_
  refine q_get C I 0 1 rfl rfl i_Mod (by decide) m26_1 rfl d26_Mod_feed_107 ?_
  refine lv_iconst (v := 1) hx hb d26_Mod_feed_110 (by decide) ?_
  refine lv_iadd hx hb d26_Mod_feed_111 ?_
  refine W.eq (g2 := F0 m 112 ls [.int 19, .ref h0]) rfl ?_
  refine q_put t_Mod t_Mod_ok n_Mod C I 0 1 rfl rfl i_Mod (by decide) m26_1 rfl rfl rfl (Nat.le_of_ble_eq_true rfl) d26_Mod_feed_112 (fun H locs I => ?_)
  have I : q_I D q_cl _ s [(h0, .inr (13, [.ref m_input, .int 19, .int 0, .int 0, .int (-1), .ref m_tree, .ref m_other, .ref m_now, .ref m_spare, .ref m_circuit, .ref m_old])), (m_input, .inl (cA, 32768, .inl g57))] [(cA, .byte)] H _ := I
  refine lv_iinc (v := 19) (lv' := [(6, .int 19), (7, .int a5), (0, .ref h0), (1, .int a1), (2, .int a2), (3, .int a3), (4, .int a4), (5, .int a5)]) hx hb d26_Mod_feed_115 hl (k := 1) rfl (by decide) (by decide) rfl (fun ls hl => ?_)
  refine lv_goto (tgt := 27) hx hb d26_Mod_feed_118 (by decide) ?_
  refine lv_iload hx hb d26_Mod_feed_27 (lv_at hl 0 rfl) ?_
  refine lv_bipush (v := 20) hx hb d26_Mod_feed_29 (by decide) ?_
  refine lv_icmp_ge (tgt := 121) hx hb d26_Mod_feed_31 (by decide) (fun h => absurd h (by decide)) (fun _ => ?_)
  refine lv_iload hx hb d26_Mod_feed_34 (lv_at hl 0 rfl) ?_
  refine lv_iconst (v := 4) hx hb d26_Mod_feed_36 (by decide) ?_
  refine lv_icmp_ge (tgt := 44) hx hb d26_Mod_feed_37 (by decide) (fun _ => ?_) (fun h => absurd h (by decide))
  refine lv_iload hx hb d26_Mod_feed_44 (lv_at hl 0 rfl) ?_
  refine lv_bipush (v := 8) hx hb d26_Mod_feed_46 (by decide) ?_
  refine lv_icmp_ge (tgt := 55) hx hb d26_Mod_feed_48 (by decide) (fun _ => ?_) (fun h => absurd h (by decide))
  refine lv_iload hx hb d26_Mod_feed_55 (lv_at hl 0 rfl) ?_
  refine lv_bipush (v := 12) hx hb d26_Mod_feed_57 (by decide) ?_
  refine lv_icmp_ge (tgt := 66) hx hb d26_Mod_feed_59 (by decide) (fun _ => ?_) (fun h => absurd h (by decide))
  refine lv_iload hx hb d26_Mod_feed_66 (lv_at hl 0 rfl) ?_
  refine lv_bipush (v := 16) hx hb d26_Mod_feed_68 (by decide) ?_
  refine lv_icmp_ge (tgt := 78) hx hb d26_Mod_feed_70 (by decide) (fun _ => ?_) (fun h => absurd h (by decide))
  refine lv_iload hx hb d26_Mod_feed_78 (lv_at hl 7 rfl) ?_
  refine lv_istore (lv' := [(7, .int a5), (6, .int 19), (0, .ref h0), (1, .int a1), (2, .int a2), (3, .int a3), (4, .int a4), (5, .int a5)]) hx hb d26_Mod_feed_80 hl (by decide) rfl (fun ls hl => ?_)
  refine lv_aload_n hx hb d26_Mod_feed_82 rfl (lv_at hl 2 rfl) ?_
  refine q_get C I 0 0 rfl rfl i_Mod (by decide) m26_3 rfl d26_Mod_feed_83 ?_
  refine lv_aload_n hx hb d26_Mod_feed_86 rfl (lv_at hl 2 rfl) ?_
  refine q_get C I 0 1 rfl rfl i_Mod (by decide) m26_1 rfl d26_Mod_feed_87 ?_
  refine lv_iload hx hb d26_Mod_feed_90 (lv_at hl 0 rfl) ?_
  refine lv_bipush (v := 24) hx hb d26_Mod_feed_92 (by decide) ?_
  refine lv_iload hx hb d26_Mod_feed_94 (lv_at hl 1 rfl) ?_
  refine lv_iconst (v := 4) hx hb d26_Mod_feed_96 (by decide) ?_
  refine lv_irem hx hb d26_Mod_feed_97 (by decide) ?_
  refine W.eq (g2 := F0 m 98 ls [.int 3, .int 24, .int a5, .int 19, .ref m_input]) rfl ?_
  refine lv_bipush (v := 8) hx hb d26_Mod_feed_98 (by decide) ?_
  refine lv_imul hx hb d26_Mod_feed_100 ?_
  refine W.eq (g2 := F0 m 101 ls [.int 24, .int 24, .int a5, .int 19, .ref m_input]) rfl ?_
  refine lv_isub hx hb d26_Mod_feed_101 ?_
  refine W.eq (g2 := F0 m 102 ls [.int 0, .int a5, .int 19, .ref m_input]) rfl ?_
  refine lv_iushr hx hb d26_Mod_feed_102 rfl ?_
  refine lv_topi (fun z58 _ => ?_)
  refine lv_i2b hx hb d26_Mod_feed_103 rfl ?_
  refine lv_topi (fun z59 _ => ?_)
  refine q_bastX C I 1 0 rfl rfl (by unfold vp_in; decide) d26_Mod_feed_104 (fun g60 H locs I => ?_)
  have I : q_I D q_cl _ s [(h0, .inr (13, [.ref m_input, .int 19, .int 0, .int 0, .int (-1), .ref m_tree, .ref m_other, .ref m_now, .ref m_spare, .ref m_circuit, .ref m_old])), (m_input, .inl (cA, 32768, .inl g60))] [(cA, .byte)] H _ := I
  refine lv_aload_n hx hb d26_Mod_feed_105 rfl (lv_at hl 2 rfl) ?_
  refine lv_dup hx hb d26_Mod_feed_106 rfl ?_
  refine q_get C I 0 1 rfl rfl i_Mod (by decide) m26_1 rfl d26_Mod_feed_107 ?_
  refine lv_iconst (v := 1) hx hb d26_Mod_feed_110 (by decide) ?_
  refine lv_iadd hx hb d26_Mod_feed_111 ?_
  refine W.eq (g2 := F0 m 112 ls [.int 20, .ref h0]) rfl ?_
  refine q_put t_Mod t_Mod_ok n_Mod C I 0 1 rfl rfl i_Mod (by decide) m26_1 rfl rfl rfl (Nat.le_of_ble_eq_true rfl) d26_Mod_feed_112 (fun H locs I => ?_)
  have I : q_I D q_cl _ s [(h0, .inr (13, [.ref m_input, .int 20, .int 0, .int 0, .int (-1), .ref m_tree, .ref m_other, .ref m_now, .ref m_spare, .ref m_circuit, .ref m_old])), (m_input, .inl (cA, 32768, .inl g60))] [(cA, .byte)] H _ := I
  refine lv_iinc (v := 20) (lv' := [(6, .int 20), (7, .int a5), (0, .ref h0), (1, .int a1), (2, .int a2), (3, .int a3), (4, .int a4), (5, .int a5)]) hx hb d26_Mod_feed_115 hl (k := 1) rfl (by decide) (by decide) rfl (fun ls hl => ?_)
  refine lv_goto (tgt := 27) hx hb d26_Mod_feed_118 (by decide) ?_
  refine lv_iload hx hb d26_Mod_feed_27 (lv_at hl 0 rfl) ?_
  refine lv_bipush (v := 20) hx hb d26_Mod_feed_29 (by decide) ?_
  refine lv_icmp_ge (tgt := 121) hx hb d26_Mod_feed_31 (by decide) (fun _ => ?_) (fun h => absurd h (by decide))
  refine lv_aload_n hx hb d26_Mod_feed_121 rfl (lv_at hl 2 rfl) ?_
  refine q_get C I 0 1 rfl rfl i_Mod (by decide) m26_1 rfl d26_Mod_feed_122 ?_
  have I : q_I D q_cl _ s [(h0, .inr (13, [.ref m_input, .int 20, .int 0, .int 0, .int (-1), .ref m_tree, .ref m_other, .ref m_now, .ref m_spare, .ref m_circuit, .ref m_old]))] [] _ _ := q_pick I [0] [] rfl (by decide) rfl
  exact q_iret C hr I ⟨_, _, rfl, rfl, rfl, rfl, rfl⟩ (Nat.le_of_ble_eq_true rfl) (Nat.le_of_ble_eq_true rfl) d26_Mod_feed_125
