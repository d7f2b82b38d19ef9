set_option maxRecDepth 20000 in
theorem m22_0 : (Cond.methodLink "java/util/Arrays" 13 ⟨"java/util/Arrays", "rangeCheck", "(III)V"⟩ : Cond) ∈ q_big := q_m6 (List.mem_of_getElem? (i := 1) rfl) rfl
set_option maxRecDepth 20000 in
theorem m22_1 : (Cond.code ⟨"java/util/Arrays", "rangeCheck", "(III)V"⟩ prog_39_method_30_code 3 none : Cond) ∈ q_big := q_m6 (List.mem_of_getElem? (i := 3) rfl) rfl
set_option maxRecDepth 20000 in
theorem m22_2 : (Cond.static ⟨"java/util/Arrays", "rangeCheck", "(III)V"⟩ : Cond) ∈ q_big := q_m6 (List.mem_of_getElem? (i := 2) rfl) rfl
set_option maxRecDepth 20000 in
theorem m22_3 : (Cond.initialized "java/util/Arrays" : Cond) ∈ q_big := q_m1 (List.mem_of_getElem? (i := 26) rfl) rfl
theorem d22_java_util_Arrays_fill_IIV_5 : decode prog_39_method_103_code 5 = .ok (.iload_n 2, 1) := by decide +kernel
theorem d22_java_util_Arrays_fill_IIV_6 : decode prog_39_method_103_code 6 = .ok (.iload_n 3, 1) := by decide +kernel
theorem d22_java_util_Arrays_fill_IIV_7 : decode prog_39_method_103_code 7 = .ok (.if_icmp .ge 13, 3) := by decide +kernel
theorem d22_java_util_Arrays_fill_IIV_10 : decode prog_39_method_103_code 10 = .ok (.aload_n 0, 1) := by decide +kernel
theorem d22_java_util_Arrays_fill_IIV_11 : decode prog_39_method_103_code 11 = .ok (.iload_n 2, 1) := by decide +kernel
theorem d22_java_util_Arrays_fill_IIV_12 : decode prog_39_method_103_code 12 = .ok (.iload_n 1, 1) := by decide +kernel
theorem d22_java_util_Arrays_fill_IIV_13 : decode prog_39_method_103_code 13 = .ok (.iastore, 1) := by decide +kernel
theorem d22_java_util_Arrays_fill_IIV_14 : decode prog_39_method_103_code 14 = .ok (.iinc 2 1, 3) := by decide +kernel
theorem d22_java_util_Arrays_fill_IIV_17 : decode prog_39_method_103_code 17 = .ok (.goto (-12), 3) := by decide +kernel
theorem d22_java_util_Arrays_fill_IIV_0 : decode prog_39_method_103_code 0 = .ok (.iconst 0, 1) := by decide +kernel
theorem d22_java_util_Arrays_fill_IIV_1 : decode prog_39_method_103_code 1 = .ok (.istore_n 2, 1) := by decide +kernel
theorem d22_java_util_Arrays_fill_IIV_2 : decode prog_39_method_103_code 2 = .ok (.aload_n 0, 1) := by decide +kernel
theorem d22_java_util_Arrays_fill_IIV_3 : decode prog_39_method_103_code 3 = .ok (.arraylength, 1) := by decide +kernel
theorem d22_java_util_Arrays_fill_IIV_4 : decode prog_39_method_103_code 4 = .ok (.istore_n 3, 1) := by decide +kernel
theorem d22_java_util_Arrays_fill_IIV_20 : decode prog_39_method_103_code 20 = .ok (.return_, 1) := by decide +kernel
theorem d22_java_util_Arrays_rangeCheck_0 : decode prog_39_method_30_code 0 = .ok (.iload_n 1, 1) := by decide +kernel
theorem d22_java_util_Arrays_rangeCheck_1 : decode prog_39_method_30_code 1 = .ok (.iload_n 2, 1) := by decide +kernel
theorem d22_java_util_Arrays_rangeCheck_2 : decode prog_39_method_30_code 2 = .ok (.if_icmp .le 44, 3) := by decide +kernel
theorem d22_java_util_Arrays_rangeCheck_46 : decode prog_39_method_30_code 46 = .ok (.iload_n 1, 1) := by decide +kernel
theorem d22_java_util_Arrays_rangeCheck_47 : decode prog_39_method_30_code 47 = .ok (.ifCond .ge 12, 3) := by decide +kernel
theorem d22_java_util_Arrays_rangeCheck_59 : decode prog_39_method_30_code 59 = .ok (.iload_n 2, 1) := by decide +kernel
theorem d22_java_util_Arrays_rangeCheck_60 : decode prog_39_method_30_code 60 = .ok (.iload_n 0, 1) := by decide +kernel
theorem d22_java_util_Arrays_rangeCheck_61 : decode prog_39_method_30_code 61 = .ok (.if_icmp .le 12, 3) := by decide +kernel
theorem d22_java_util_Arrays_rangeCheck_73 : decode prog_39_method_30_code 73 = .ok (.return_, 1) := by decide +kernel
theorem d22_java_util_Arrays_fill_IIIIV_0 : decode prog_39_method_104_code 0 = .ok (.aload_n 0, 1) := by decide +kernel
theorem d22_java_util_Arrays_fill_IIIIV_1 : decode prog_39_method_104_code 1 = .ok (.arraylength, 1) := by decide +kernel
theorem d22_java_util_Arrays_fill_IIIIV_2 : decode prog_39_method_104_code 2 = .ok (.iload_n 1, 1) := by decide +kernel
theorem d22_java_util_Arrays_fill_IIIIV_3 : decode prog_39_method_104_code 3 = .ok (.iload_n 2, 1) := by decide +kernel
theorem d22_java_util_Arrays_fill_IIIIV_4 : decode prog_39_method_104_code 4 = .ok (.invokestatic 13, 3) := by decide +kernel
theorem d22_java_util_Arrays_fill_IIIIV_7 : decode prog_39_method_104_code 7 = .ok (.iload_n 1, 1) := by decide +kernel
theorem d22_java_util_Arrays_fill_IIIIV_8 : decode prog_39_method_104_code 8 = .ok (.istore 4, 2) := by decide +kernel
theorem d22_java_util_Arrays_fill_IIIIV_10 : decode prog_39_method_104_code 10 = .ok (.iload 4, 2) := by decide +kernel
theorem d22_java_util_Arrays_fill_IIIIV_12 : decode prog_39_method_104_code 12 = .ok (.iload_n 2, 1) := by decide +kernel
theorem d22_java_util_Arrays_fill_IIIIV_13 : decode prog_39_method_104_code 13 = .ok (.if_icmp .ge 14, 3) := by decide +kernel
theorem d22_java_util_Arrays_fill_IIIIV_27 : decode prog_39_method_104_code 27 = .ok (.return_, 1) := by decide +kernel
/-! System.arraycopy of nothing between two rows of bytes -/
theorem q_copy0 {p : Program} {l : Launch} {e : Env} {R : Room} {s : State} {m : MethodId} {args : Array Value} {below : List Frame} {meth : Method} {c : Code} {H : Heap} {locs : List Loc} {cells slots : Nat} {Q : State → Prop} {D : va_G} {cl : List vw_C} {A : Nat → Prop} {ws : va_W} {tys : q_ty} {cc : ByteArray} {nL : Nat} {own : String} {pc : Nat} {ls : Array Slot} {rest : List Value} {index a a0 : Nat} {c0 c1 : ClassId} {n0 n1 : Nat} {f g : Nat → Int32} {ty : FieldType}
    (C : q_C p s m meth c args cc nL own A) (I : q_I D cl A s ws tys H locs) (q0 q1 t0 t1 : Nat) (ha0 : ws[q0]? = some (a0, .inl (c0, n0, .inl f))) (ha1 : ws[q1]? = some (a, .inl (c1, n1, .inl g))) (ht0 : tys[t0]? = some (c0, ty)) (ht1 : tys[t1]? = some (c1, ty)) (hprim : refKind ty = false)
    (hlink : Cond.methodLink own index arraycopyName ∈ q_big) (hnat : Cond.native arraycopyName ∈ q_big) (hstat : Cond.static arraycopyName ∈ q_big) (hini : Cond.initialized "java/lang/System" ∈ q_big) (hls : ls.size = nL) (hf : 1 ≤ R.frames) (hlo : (rest.map fun v => v.category).sum + 18 ≤ R.locals) (hdg : decode cc pc = .ok (.invokestatic index, 3))
    (kk : ∀ (g' : Nat → Int32) (H1 : Heap) (locs1 : List Loc), q_I D cl A s (ws.set q1 (a, .inl (c1, n1, .inl g'))) tys H1 locs1 → W p l e R s m args below meth c H1 locs1 cells slots Q (F0 m (pc + 3) ls rest)) :
    W p l e R s m args below meth c H locs cells slots Q (F0 m pc ls (.int 0 :: .int 0 :: .ref a :: .int 0 :: .ref a0 :: rest)) :=
  va_copyi C.1 C.2.1 (C.2.2.1.trans hls.symm) C.2.2.2.1 (C.2.2.2.2.1 _ hlink) (C.2.2.2.2.1 _ hnat) (C.2.2.2.2.1 _ hstat) (C.2.2.2.2.1 _ hini) I.2.2.1 I.1 I.2.1 I.2.2.2 q0 q1 t0 t1 ha0 ha1 ht0 ht1 hprim (by decide) (by decide) (by decide) (Nat.zero_le n0) (Nat.zero_le n1) (fun i hi => absurd hi (Nat.not_lt_zero i)) hf hlo hdg (fun H1 locs1 hP hD hS => kk _ H1 locs1 ⟨hP, hD, I.2.2.1, hS⟩)
/-- the loop of Arrays.fill(row, x), 1024 places -/
theorem lp_fill {p : Program} {l : Launch} {e : Env} {R : Room} {s : State} {m : MethodId} {args : Array Value} {below : List Frame} {meth : Method} {c : Code} {Q : State → Prop} {D : va_G} {A : Nat → Prop} {a : Nat} {cA : ClassId} {x : Int32} {k0 n0 : Nat} (C : q_C p s m meth c args prog_39_method_103_code 4 "java/util/Arrays" A)
    (kk : ∀ (g : Nat → Int32) (H : Heap) (locs : List Loc) (ls : Array Slot), q_I D q_cl A s [(a, .inl (cA, 1024, .inl g))] [(cA, .int)] H locs → lv_has ls 4 [(2, .int (nI 1024)), (3, .int 1024), (0, .ref a), (1, .int x)] → W p l e R s m args below meth c H locs k0 n0 Q (F0 m 20 ls [])) :
    ∀ (n i : Nat) (g : Nat → Int32) (H : Heap) (locs : List Loc) (ls : Array Slot), i + n = 1024 → q_I D q_cl A s [(a, .inl (cA, 1024, .inl g))] [(cA, .int)] H locs → lv_has ls 4 [(2, .int (nI i)), (3, .int 1024), (0, .ref a), (1, .int x)] → W p l e R s m args below meth c H locs k0 n0 Q (F0 m 5 ls []) := by
  have hx := C.1
  have hb := C.2.1
  intro n
  induction n with
  | zero =>
    intro i g H locs ls hi I hl
    obtain rfl : i = 1024 := by omega
    refine lv_iload_n hx hb d22_java_util_Arrays_fill_IIV_5 rfl (lv_at hl 0 rfl) ?_
    refine lv_iload_n hx hb d22_java_util_Arrays_fill_IIV_6 rfl (lv_at hl 1 rfl) ?_
    refine lv_icmp_ge (tgt := 20) hx hb d22_java_util_Arrays_fill_IIV_7 (by decide) (fun _ => ?_) (fun h => absurd (show nI 1024 ≤ nI 1024 from Int32.le_refl _) h)
    exact kk g H locs ls I hl
  | succ n ih =>
    intro i g H locs ls hi I hl
    have hlt : i < 1024 := by omega
    refine lv_iload_n hx hb d22_java_util_Arrays_fill_IIV_5 rfl (lv_at hl 0 rfl) ?_
    refine lv_iload_n hx hb d22_java_util_Arrays_fill_IIV_6 rfl (lv_at hl 1 rfl) ?_
    refine lv_icmp_ge (tgt := 20) hx hb d22_java_util_Arrays_fill_IIV_7 (by decide) (fun h => absurd (show nI 1024 ≤ nI i from h) (nI_ge hlt (by decide))) (fun _ => ?_)
    refine lv_aload_n hx hb d22_java_util_Arrays_fill_IIV_10 rfl (lv_at hl 2 rfl) ?_
    refine lv_iload_n hx hb d22_java_util_Arrays_fill_IIV_11 rfl (lv_at hl 0 rfl) ?_
    refine lv_iload_n hx hb d22_java_util_Arrays_fill_IIV_12 rfl (lv_at hl 3 rfl) ?_
    refine q_iastX C I 0 0 rfl rfl (vp_in_nI hlt (by decide)) d22_java_util_Arrays_fill_IIV_13 (fun g H locs I => ?_)
    have I : q_I D q_cl A s [(a, .inl (cA, 1024, .inl g))] [(cA, .int)] H locs := I
    refine lv_iinc (v := nI (i + 1)) (lv' := [(2, .int (nI (i + 1))), (3, .int 1024), (0, .ref a), (1, .int x)]) hx hb d22_java_util_Arrays_fill_IIV_14 hl (k := 0) rfl (nI_1 i) (by decide) rfl (fun ls hl => ?_)
    refine lv_goto (tgt := 5) hx hb d22_java_util_Arrays_fill_IIV_17 (by decide) ?_
    exact ih (i + 1) g H locs ls (by omega) I hl
set_option maxHeartbeats 4000000 in
set_option maxRecDepth 100000 in
/-- Arrays.fill(row, x), 1024 places -/
theorem c_fill (l : Launch) (D : va_G) (a : Nat) (x : Int32) (cA : ClassId) (g : Nat → Int32) : q_Met l ⟨"java/util/Arrays", "fill", "([II)V"⟩ (Cond.code ⟨"java/util/Arrays", "fill", "([II)V"⟩ prog_39_method_103_code 4 none) { frames := 0, cells := 0, slots := 0, locals := 0 } D q_cl [.ref a, .int x] [(a, .inl (cA, 1024, .inl g))] [(cA, .int)] (fun r w ty => ∃ g9 : Nat → Int32, r = .inl none ∧ w = [(a, .inl (cA, 1024, .inl g9))] ∧ ty = [(cA, .int)]) := by
  refine q_ofW (by decide) ?_
  intro p e s m below meth c C hr hin hex I
  have hx := C.1
  have hb := C.2.1
  have hl := lv_entry ([.ref a, .int x]) (n := 4) (Nat.le_of_ble_eq_true rfl)
  rw [lg_entry_eq]
  generalize (lg_sl ([.ref a, .int x]) ++ List.replicate (4 - (lg_sl ([.ref a, .int x])).length) Slot.unset).toArray = ls at hl ⊢
  have hl : lv_has ls 4 [(0, .ref a), (1, .int x)] := hl
  refine lv_iconst (v := 0) hx hb d22_java_util_Arrays_fill_IIV_0 (by decide) ?_
  refine lv_istore_n (lv' := [(2, .int 0), (0, .ref a), (1, .int x)]) hx hb d22_java_util_Arrays_fill_IIV_1 rfl hl (by decide) rfl (fun ls hl => ?_)
  refine lv_aload_n hx hb d22_java_util_Arrays_fill_IIV_2 rfl (lv_at hl 1 rfl) ?_
  refine va_alen hx hb I.2.2.1 I.1 0 0 rfl rfl (v := 1024) rfl d22_java_util_Arrays_fill_IIV_3 ?_
  refine lv_istore_n (lv' := [(3, .int 1024), (2, .int 0), (0, .ref a), (1, .int x)]) hx hb d22_java_util_Arrays_fill_IIV_4 rfl hl (by decide) rfl (fun ls hl => ?_)
  refine lp_fill (k0 := 0) (n0 := 0) C (fun g H locs ls I hl => ?_) 1024 0 _ _ _ ls rfl I (lv_sub hl [1, 0, 2, 3] rfl)
  exact q_vret C hr I ⟨g, rfl, rfl, rfl⟩ (Nat.le_of_ble_eq_true rfl) (Nat.le_of_ble_eq_true rfl) d22_java_util_Arrays_fill_IIV_20
set_option maxHeartbeats 4000000 in
set_option maxRecDepth 100000 in
/-- rangeCheck(16385, 0, 0) -/
theorem c_java_util_Arrays_rangeCheck (l : Launch) (D : va_G)  : q_Met l ⟨"java/util/Arrays", "rangeCheck", "(III)V"⟩ (Cond.code ⟨"java/util/Arrays", "rangeCheck", "(III)V"⟩ prog_39_method_30_code 3 none) { frames := 0, cells := 0, slots := 0, locals := 0 } D q_cl [.int 16385, .int 0, .int 0] [] [] (fun r w ty => r = .inl none ∧ w = [] ∧ ty = []) := by
  refine q_ofW (by decide) ?_
  intro p e s m below meth c C hr hin hex I
  have hx := C.1
  have hb := C.2.1
  have hl := lv_entry ([.int 16385, .int 0, .int 0]) (n := 3) (Nat.le_of_ble_eq_true rfl)
  rw [lg_entry_eq]
  generalize (lg_sl ([.int 16385, .int 0, .int 0]) ++ List.replicate (3 - (lg_sl ([.int 16385, .int 0, .int 0])).length) Slot.unset).toArray = ls at hl ⊢
  have hl : lv_has ls 3 [(0, .int 16385), (1, .int 0), (2, .int 0)] := hl
  refine lv_iload_n hx hb d22_java_util_Arrays_rangeCheck_0 rfl (lv_at hl 1 rfl) ?_
  refine lv_iload_n hx hb d22_java_util_Arrays_rangeCheck_1 rfl (lv_at hl 2 rfl) ?_
  refine lv_icmp_le (tgt := 46) hx hb d22_java_util_Arrays_rangeCheck_2 (by decide) (fun _ => ?_) (fun h => absurd h (by decide))
  refine lv_iload_n hx hb d22_java_util_Arrays_rangeCheck_46 rfl (lv_at hl 1 rfl) ?_
  refine lv_if_ge (tgt := 59) hx hb d22_java_util_Arrays_rangeCheck_47 (by decide) (fun _ => ?_) (fun h => absurd h (by decide))
  refine lv_iload_n hx hb d22_java_util_Arrays_rangeCheck_59 rfl (lv_at hl 2 rfl) ?_
  refine lv_iload_n hx hb d22_java_util_Arrays_rangeCheck_60 rfl (lv_at hl 0 rfl) ?_
  refine lv_icmp_le (tgt := 73) hx hb d22_java_util_Arrays_rangeCheck_61 (by decide) (fun _ => ?_) (fun h => absurd h (by decide))
  exact q_vret C hr I ⟨rfl, rfl, rfl⟩ (Nat.le_of_ble_eq_true rfl) (Nat.le_of_ble_eq_true rfl) d22_java_util_Arrays_rangeCheck_73
set_option maxHeartbeats 4000000 in
set_option maxRecDepth 100000 in
/-- fill(row, 0, 0, x): nothing -/
theorem c_java_util_Arrays_fill_IIIIV (l : Launch) (D : va_G) (a : Nat) (x : Int32) (cA : ClassId) (g : Nat → Int32) : q_Met l ⟨"java/util/Arrays", "fill", "([IIII)V"⟩ (Cond.code ⟨"java/util/Arrays", "fill", "([IIII)V"⟩ prog_39_method_104_code 5 none) { frames := 1, cells := 0, slots := 0, locals := 14 } D q_cl [.ref a, .int 0, .int 0, .int x] [(a, .inl (cA, 16385, .inl g))] [(cA, .int)] (fun r w ty => r = .inl none ∧ w = [(a, .inl (cA, 16385, .inl g))] ∧ ty = [(cA, .int)]) := by
  refine q_ofW (by decide) ?_
  intro p e s m below meth c C hr hin hex I
  have hx := C.1
  have hb := C.2.1
  have hl := lv_entry ([.ref a, .int 0, .int 0, .int x]) (n := 5) (Nat.le_of_ble_eq_true rfl)
  rw [lg_entry_eq]
  generalize (lg_sl ([.ref a, .int 0, .int 0, .int x]) ++ List.replicate (5 - (lg_sl ([.ref a, .int 0, .int 0, .int x])).length) Slot.unset).toArray = ls at hl ⊢
  have hl : lv_has ls 5 [(0, .ref a), (1, .int 0), (2, .int 0), (3, .int x)] := hl
  refine lv_aload_n hx hb d22_java_util_Arrays_fill_IIIIV_0 rfl (lv_at hl 0 rfl) ?_
  refine va_alen hx hb I.2.2.1 I.1 0 0 rfl rfl (v := 16385) rfl d22_java_util_Arrays_fill_IIIIV_1 ?_
  refine lv_iload_n hx hb d22_java_util_Arrays_fill_IIIIV_2 rfl (lv_at hl 1 rfl) ?_
  refine lv_iload_n hx hb d22_java_util_Arrays_fill_IIIIV_3 rfl (lv_at hl 2 rfl) ?_
  refine q_go (wr := [(a, .inl (cA, 16385, .inl g))]) (tyr := [(cA, .int)]) C I (q_siteS (As := [.int 16385, .int 0, .int 0]) (rest := []) C m22_0 m22_2 m22_3 m22_1 ⟨by decide, by decide⟩ (Eq.trans (b := some 3) (by decide +kernel) rfl) rfl d22_java_util_Arrays_fill_IIIIV_4) (c_java_util_Arrays_rangeCheck l D ) m22_1 m22_3 [] [0] [] [0] rfl rfl (by decide) (by decide) (by decide) rfl rfl hl.1 d22_java_util_Arrays_fill_IIIIV_4 (Nat.le_of_ble_eq_true rfl) (Nat.le_of_ble_eq_true rfl) (Nat.le_of_ble_eq_true rfl) (Nat.le_of_ble_eq_true rfl) (fun v w ty H locs hp I => ?_) (fun E w ty H locs q ce hp _ _ _ _ => ?_)
  rotate_left
  · obtain ⟨hv, -⟩ := hp; cases hv
  obtain ⟨hv, rfl, rfl⟩ := hp
  cases hv
  have I : q_I D q_cl _ s [(a, .inl (cA, 16385, .inl g))] [(cA, .int)] H _ := I
  refine W.eq (g2 := F0 m 7 ls []) rfl ?_
  refine lv_iload_n hx hb d22_java_util_Arrays_fill_IIIIV_7 rfl (lv_at hl 1 rfl) ?_
  refine lv_istore (lv' := [(4, .int 0), (0, .ref a), (1, .int 0), (2, .int 0), (3, .int x)]) hx hb d22_java_util_Arrays_fill_IIIIV_8 hl (by decide) rfl (fun ls hl => ?_)
  refine lv_iload hx hb d22_java_util_Arrays_fill_IIIIV_10 (lv_at hl 0 rfl) ?_
  refine lv_iload_n hx hb d22_java_util_Arrays_fill_IIIIV_12 rfl (lv_at hl 3 rfl) ?_
  refine lv_icmp_ge (tgt := 27) hx hb d22_java_util_Arrays_fill_IIIIV_13 (by decide) (fun _ => ?_) (fun h => absurd h (by decide))
  exact q_vret C hr I ⟨rfl, rfl, rfl⟩ (Nat.le_of_ble_eq_true rfl) (Nat.le_of_ble_eq_true rfl) d22_java_util_Arrays_fill_IIIIV_27
