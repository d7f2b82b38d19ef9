/-! ONE FORM OF CONTRACT for all methods here: one list of words (q_big), the words that aren't steady (q_nest), Throwable's two statics; a method returns or throws. -/
abbrev q_ty : Type := List (ClassId × FieldType)
abbrev q_O : Type := Option Value ⊕ String
/-- what a method finds at its start -/
def q_in (D : va_G) (cl : List vw_C) (ws : va_W) (tys : q_ty) (sz : Nat) (U : State) : Prop :=
  U.heap.size = sz ∧ va_P D cl ws U.heap ∧ va_K D cl tys U ∧ va_D (fun _ => True) ws ∧ q_N U ∧ q_St (va_A ws sz) U U.heap
/-- what is thrown is the first cell of the world behind, where that is the reference's kept Wrong (class 16) -/
def q_X (q : Addr) (w : va_W) : Prop := ∀ (x : Nat) (fs : List Value), w.head? = some (x, .inr (16, fs)) → x = q
theorem q_X_nil {q : Addr} : q_X q [] := fun _ _ h => by cases h
/-- how it ends: r says what it returns, or the class of what it throws; w the world then -/
def q_end (D : va_G) (cl : List vw_C) (ws : va_W) (sz : Nat) (post : q_O → va_W → q_ty → Prop) (mc ms : Nat) (st : State) (o : Outcome) (t : State) : Prop :=
  ∃ (r : q_O) (w : va_W) (ty : q_ty) (L : List Loc), post r w ty ∧ va_P D cl w t.heap ∧ va_K D cl ty t ∧ va_D (va_A ws sz) w ∧ va_F (va_A ws sz) st t ∧ st.WarmedH t.vm ∧ st.sameButNew ({ t with vm := st.vm } : State) L mc ms ∧ (∀ q ∈ L, va_A ws sz q.base) ∧
    (match r with
      | .inl v => o = .returned v
      | .inr E => ∃ (q : Addr) (ce : Cell), o = .threw q ∧ t.heap[q]? = some ce ∧ ce.vm = .none ∧ st.vm.findClass E = some ce.cls ∧ q_X q w)
/-- the contract -/
def q_Met (l : Launch) (y : MethodName) (w0 : Cond) (rm : Room) (D : va_G) (cl : List vw_C) (as : List Value) (ws : va_W) (tys : q_ty) (post : q_O → va_W → q_ty → Prop) : Prop :=
  ∀ sz : Nat, MetFree l y (headSpec (w0 :: q_big) rm) (va_Pc as (q_in D cl ws tys sz)) (fun _ _ _ _ _ => True) (fun _ st o t => q_end D cl ws sz post rm.cells rm.slots st o t)
/-- what holds all along a method's walk -/
def q_C (p : Program) (s : State) (m : MethodId) (meth : Method) (c : Code) (args : Array Value) (cc : ByteArray) (nL : Nat) (own : String) (A : Nat → Prop) : Prop :=
  p.tables.exec = Jvm.exec ∧ c.code = cc ∧ c.maxLocals = nL ∧ s.vm.findClass own = some m.cls ∧ (∀ w ∈ q_big, w.before args s = true) ∧ q_N s ∧ q_St A s s.heap ∧ (∀ q, s.heap.size ≤ q → A q) ∧ meth.locks = false ∧ ∀ (q : Nat) (cell : Cell), A q → s.heap[q]? = some cell → cell.vm.isStatics = false
/-- the world at a point of the walk -/
def q_I (D : va_G) (cl : List vw_C) (A : Nat → Prop) (s : State) (ws : va_W) (tys : q_ty) (H : Heap) (locs : List Loc) : Prop :=
  va_P D cl ws H ∧ va_D A ws ∧ va_K D cl tys s ∧ va_S A s.heap H locs
/-- what a method's end is, for its walk -/
def q_Z (below : List Frame) (D : va_G) (cl : List vw_C) (ws : va_W) (sz : Nat) (post : q_O → va_W → q_ty → Prop) (mc ms : Nat) (s : State) : State → Prop := fun t =>
  ∃ o, t.status = .running ∧ Ended t below o ∧ q_end D cl ws sz post mc ms s o t
section QF
variable {p : Program} {l : Launch} {e : Env} {R : Room} {s : State} {m : MethodId} {args : Array Value} {below : List Frame} {meth : Method} {c : Code} {H : Heap} {locs : List Loc} {cells slots : Nat} {Q : State → Prop}
variable {D : va_G} {cl : List vw_C} {A : Nat → Prop} {ws : va_W} {tys : q_ty} {cc : ByteArray} {nL : Nat} {own : String} {pc : Nat} {ls : Array Slot}
theorem q_mono {Q' : State → Prop} {g : JFrame} (h : ∀ t, Q t → Q' t) (k : W p l e R s m args below meth c H locs cells slots Q g) : W p l e R s m args below meth c H locs cells slots Q' g := by
  intro T hT X
  obtain ⟨t, a, b⟩ := k T hT X
  exact ⟨t, a, h t b⟩
/-- the frame g, with q thrown over it -/
def q_W (p : Program) (l : Launch) (e : Env) (R : Room) (s : State) (m : MethodId) (args : Array Value) (below : List Frame) (meth : Method) (c : Code) (H : Heap) (locs : List Loc) (cells slots : Nat) (Q : State → Prop) (g : JFrame) (q : Addr) : Prop :=
  ∀ T : State, T.heap = H → Stand p l e R s m args below meth c T locs cells slots → ∃ t, Steps p.tables e below ((T.setTop g).pushFrame (.throwing q)) t ∧ Q t
/-- a call's instruction at g has taken its operands (rest is left) and goes into the method named y with the arguments a -/
def q_Site (p : Program) (l : Launch) (e : Env) (R : Room) (s : State) (m : MethodId) (args : Array Value) (below : List Frame) (meth : Method) (c : Code) (H : Heap) (locs : List Loc) (cells slots : Nat) (y : MethodName) (a : Array Value) (g : JFrame) (rest : List Value) : Prop :=
  ∀ T : State, T.heap = H → Stand p l e R s m args below meth c T locs cells slots → ∃ (vm₁ : Vm) (mk : MethodId), Stand p l e R s m args below meth c (T.setVm vm₁) locs cells slots ∧ s.methodNamed? y = some mk ∧
    ∀ target, (∀ acts, Steps p.tables e below (doInvoke e ((T.setVm vm₁).setTop { g with stack := rest }) acts mk a).1 target) → Steps p.tables e below (T.setTop g) target
/-- the contract out of a walk -/
theorem q_ofW {y : MethodName} {ret : Option FieldType} {rm : Room} {as : List Value} {post : q_O → va_W → q_ty → Prop} (hy : plainName y.cls = true)
    (body : ∀ (p : Program) (e : Env) (s : State) (m : MethodId) (below : List Frame) (meth : Method) (c : Code), q_C p s m meth c as.toArray cc nL y.cls (va_A ws s.heap.size) → meth.sig.returnType = ret → meth.name = y.name → (∀ x ∈ c.exceptionTable.toList, False) →
      q_I D cl (va_A ws s.heap.size) s ws tys s.heap [] → W p l e rm s m as.toArray below meth c s.heap [] 0 0 (q_Z below D cl ws s.heap.size post rm.cells rm.slots s) (entryFrame m as.toArray nL)) :
    q_Met l y (.code y cc nL ret) rm D cl as ws tys post := by
  intro sz
  refine MetFree.of_bodyS (code := cc) (maxLocals := nL) (ret := ret) hy ?_ ?_
  · intro args s m h hn
    obtain ⟨meth, c, h1, h2, h3, h4, h5, h6, -, -⟩ := Cond.code_spec hn (atoms_spec (ws := Cond.code y cc nL ret :: q_big) h _ List.mem_cons_self)
    exact ⟨meth, c, h1, h2, h3, h4, h5, h6⟩
  · intro p e s m args below meth c s₁ B hml hv _
    obtain ⟨rfl, rfl, hP, hK, hD, hN, hZ⟩ := hv
    have hh0 : s₁.heap = s.heap := by rw [B.state]; rfl
    have hts := atoms_spec (ws := Cond.code y cc nL ret :: q_big) B.pre
    have hem : c.exceptionTable.isEmpty = true := B.noHandlers (hts _ List.mem_cons_self)
    obtain ⟨t, a1, o, b1, b2, b3⟩ := body p e s m below meth c ⟨B.exec, B.bytes, hml, findClass_of_methodNamed B.named, fun w hw => hts w (List.mem_cons_of_mem _ hw), hN, hZ, fun q h => Or.inr h, B.notSynchronized, q_plain hP⟩ B.returns (name_of_methodNamed B.named B.method).1
      (fun x hx => by simp only [Array.isEmpty_iff] at hem; rw [hem] at hx; cases hx) ⟨hP, hD.self, hK, va_S.rf⟩ s₁ hh0 (Stand.of_body B)
    exact ⟨t, o, a1, b1, b2, b3⟩
/-- .. of a method with an exception table -/
theorem q_ofWH {hh : List (Nat × Nat × Nat × Nat)} {y : MethodName} {ret : Option FieldType} {rm : Room} {as : List Value} {post : q_O → va_W → q_ty → Prop} (hy : plainName y.cls = true)
    (body : ∀ (p : Program) (e : Env) (s : State) (m : MethodId) (below : List Frame) (meth : Method) (c : Code), q_C p s m meth c as.toArray cc nL y.cls (va_A ws s.heap.size) → meth.sig.returnType = ret → c.exceptionTable.toList.map (fun h => (h.startPc, h.endPc, h.handlerPc, h.catchType)) = hh →
      q_I D cl (va_A ws s.heap.size) s ws tys s.heap [] → W p l e rm s m as.toArray below meth c s.heap [] 0 0 (q_Z below D cl ws s.heap.size post rm.cells rm.slots s) (entryFrame m as.toArray nL)) :
    q_Met l y (.codeWith y cc nL ret hh) rm D cl as ws tys post := by
  intro sz
  refine MetFree.of_bodyS (code := cc) (maxLocals := nL) (ret := ret) hy ?_ ?_
  · intro args s m h hn
    obtain ⟨m', meth, c, hn', h1, h2, h3, h4, -, h5, h6, -⟩ := Cond.codeWith_spec (atoms_spec (ws := Cond.codeWith y cc nL ret hh :: q_big) h _ List.mem_cons_self)
    cases hn.symm.trans hn'
    exact ⟨meth, c, h1, h2, h3, h4, h5, h6⟩
  · intro p e s m args below meth c s₁ B hml hv _
    obtain ⟨rfl, rfl, hP, hK, hD, hN, hZ⟩ := hv
    have hh0 : s₁.heap = s.heap := by rw [B.state]; rfl
    have hts := atoms_spec (ws := Cond.codeWith y cc nL ret hh :: q_big) B.pre
    obtain ⟨m', meth', c', hn', h1, h2, -, -, hex, -⟩ := Cond.codeWith_spec (hts _ List.mem_cons_self)
    cases B.named.symm.trans hn'
    cases B.method.symm.trans h1
    cases (Stand.of_body B).code.symm.trans h2
    obtain ⟨t, a1, o, b1, b2, b3⟩ := body p e s m below meth c ⟨B.exec, B.bytes, hml, findClass_of_methodNamed B.named, fun w hw => hts w (List.mem_cons_of_mem _ hw), hN, hZ, fun q h => Or.inr h, B.notSynchronized, q_plain hP⟩ B.returns hex
      ⟨hP, hD.self, hK, va_S.rf⟩ s₁ hh0 (Stand.of_body B)
    exact ⟨t, o, a1, b1, b2, b3⟩
section Ends
variable {w1 : va_W} {ty1 : q_ty} {post : q_O → va_W → q_ty → Prop} {mc ms : Nat}
theorem q_ended {v : Option Value} (I : q_I D cl (va_A ws s.heap.size) s w1 ty1 H locs) (hp : post (.inl v) w1 ty1) {t : State} (h : MQ below (fun _ st o t => o = .returned v ∧ t.heap = H ∧ st.WarmedH t.vm) args s mc ms (va_A ws s.heap.size) t) : q_Z below D cl ws s.heap.size post mc ms s t := by
  obtain ⟨o, h1, h2, ⟨rfl, ht, hW⟩, L, ⟨-, -, hsm⟩, hL⟩ := h
  exact ⟨_, h1, h2, .inl v, w1, ty1, L, hp, by rw [ht]; exact I.1, va_K.moved hW.alike I.2.2.1, I.2.1, I.2.2.2.F ht, hW, hsm, hL, rfl⟩
theorem q_vret (C : q_C p s m meth c args cc nL own (va_A ws s.heap.size)) (hr : meth.sig.returnType = none) (I : q_I D cl (va_A ws s.heap.size) s w1 ty1 H locs) (hp : post (.inl none) w1 ty1) (hc : cells ≤ mc) (hs : slots ≤ ms) (d : decode cc pc = .ok (.return_, 1)) :
    W p l e R s m args below meth c H locs cells slots (q_Z below D cl ws s.heap.size post mc ms s) (F0 m pc ls []) := by
  refine W.widen hc hs (q_mono (fun t h => q_ended I hp h) (W.vret (Qc := fun _ st o t => o = .returned none ∧ t.heap = H ∧ st.WarmedH t.vm) (free := va_A ws s.heap.size) C.1 C.2.1 hr (fun t ht hW => ⟨rfl, ht, hW⟩) I.2.2.2.2.2 d C.2.2.2.2.2.2.2.2.1))
theorem q_iret {v : Int32} (C : q_C p s m meth c args cc nL own (va_A ws s.heap.size)) (hr : meth.sig.returnType = some .int) (I : q_I D cl (va_A ws s.heap.size) s w1 ty1 H locs) (hp : post (.inl (some (.int v))) w1 ty1) (hc : cells ≤ mc) (hs : slots ≤ ms) (d : decode cc pc = .ok (.ireturn, 1)) :
    W p l e R s m args below meth c H locs cells slots (q_Z below D cl ws s.heap.size post mc ms s) (F0 m pc ls [.int v]) := by
  refine W.widen hc hs (q_mono (fun t h => q_ended I hp h) (W.iret (Qc := fun _ st o t => o = .returned (some (.int v)) ∧ t.heap = H ∧ st.WarmedH t.vm) (free := va_A ws s.heap.size) C.1 C.2.1 hr (fun t ht hW => ⟨rfl, ht, hW⟩) I.2.2.2.2.2 d C.2.2.2.2.2.2.2.2.1))
theorem q_zret {v : Int32} (C : q_C p s m meth c args cc nL own (va_A ws s.heap.size)) (hr : meth.sig.returnType = some .boolean) (hn : narrow .boolean (.int v) = .int v) (I : q_I D cl (va_A ws s.heap.size) s w1 ty1 H locs) (hp : post (.inl (some (.int v))) w1 ty1) (hc : cells ≤ mc) (hs : slots ≤ ms) (d : decode cc pc = .ok (.ireturn, 1)) :
    W p l e R s m args below meth c H locs cells slots (q_Z below D cl ws s.heap.size post mc ms s) (F0 m pc ls [.int v]) := by
  refine W.widen hc hs (q_mono (fun t h => q_ended I hp h) (W.zret (Qc := fun _ st o t => o = .returned (some (.int v)) ∧ t.heap = H ∧ st.WarmedH t.vm) (free := va_A ws s.heap.size) C.1 C.2.1 hr hn (fun t ht hW => ⟨rfl, ht, hW⟩) I.2.2.2.2.2 d C.2.2.2.2.2.2.2.2.1))
theorem q_lret {v : Int64} (C : q_C p s m meth c args cc nL own (va_A ws s.heap.size)) (hr : meth.sig.returnType = some .long) (I : q_I D cl (va_A ws s.heap.size) s w1 ty1 H locs) (hp : post (.inl (some (.long v))) w1 ty1) (hc : cells ≤ mc) (hs : slots ≤ ms) (d : decode cc pc = .ok (.lreturn, 1)) :
    W p l e R s m args below meth c H locs cells slots (q_Z below D cl ws s.heap.size post mc ms s) (F0 m pc ls [.long v]) := by
  refine W.widen hc hs (q_mono (fun t h => q_ended I hp h) (W.lret (Qc := fun _ st o t => o = .returned (some (.long v)) ∧ t.heap = H ∧ st.WarmedH t.vm) (free := va_A ws s.heap.size) C.1 C.2.1 hr (fun t ht hW => ⟨rfl, ht, hW⟩) I.2.2.2.2.2 d C.2.2.2.2.2.2.2.2.1))
theorem q_aret {v : Value} {rt : FieldType} (C : q_C p s m meth c args cc nL own (va_A ws s.heap.size)) (hr : meth.sig.returnType = some rt) (hrt : (∃ n, rt = .object n) ∨ ∃ t, rt = .array t) (hv : v = .null ∨ ∃ a, v = .ref a) (I : q_I D cl (va_A ws s.heap.size) s w1 ty1 H locs) (hp : post (.inl (some v)) w1 ty1) (hc : cells ≤ mc) (hs : slots ≤ ms) (d : decode cc pc = .ok (.areturn, 1)) :
    W p l e R s m args below meth c H locs cells slots (q_Z below D cl ws s.heap.size post mc ms s) (F0 m pc ls [v]) := by
  refine W.widen hc hs (q_mono (fun t h => q_ended I hp h) (W.aret (Qc := fun _ st o t => o = .returned (some v) ∧ t.heap = H ∧ st.WarmedH t.vm) (free := va_A ws s.heap.size) C.1 C.2.1 hr hrt hv (fun t ht hW => ⟨rfl, ht, hW⟩) I.2.2.2.2.2 d C.2.2.2.2.2.2.2.2.1))
/-- thrown, and not caught here: it goes to the caller -/
theorem q_out {E : String} {q : Addr} {ce : Cell} {rest : List Value} (C : q_C p s m meth c args cc nL own (va_A ws s.heap.size)) (hout : ∀ x ∈ c.exceptionTable.toList, False) (I : q_I D cl (va_A ws s.heap.size) s w1 ty1 H locs) (hp : post (.inr E) w1 ty1) (hce : H[q]? = some ce) (hv : ce.vm = .none) (hcl : s.vm.findClass E = some ce.cls) (hX : q_X q w1) (hc : cells ≤ mc) (hs : slots ≤ ms) :
    q_W p l e R s m args below meth c H locs cells slots (q_Z below D cl ws s.heap.size post mc ms s) (F0 m pc ls rest) q := by
  intro T hT X
  obtain ⟨st1, hrun, hend, hW, hsm⟩ := X.leaveThrown q (g := F0 m pc ls rest) rfl rfl rfl (fun x hx => (hout x hx).elim) C.2.2.2.2.2.2.2.2.1
  have ht : (T.setFrames (.throwing q :: below)).heap = H := hT
  exact ⟨_, st1, .threw q, hrun, hend, .inr E, w1, ty1, locs, hp, by rw [ht]; exact I.1, va_K.moved hW.alike I.2.2.1, I.2.1, I.2.2.2.F ht, hW, hsm.mono hc hs, I.2.2.2.2.2, q, ce, rfl, by rw [ht]; exact hce, hv, hcl, hX⟩
end Ends
/-- a callee comes back, or throws -/
theorem q_land {T : State} (X : Stand p l e R s m args below meth c T locs cells slots) {g : JFrame} (hg : g.method = m) (hsize : g.locals.size = c.maxLocals) {ig : Instr} (hdg : decode c.code g.pc = .ok (ig, 3))
    {y : MethodName} {mk : MethodId} {w0 : Cond} {rm : Room} {as : List Value} {wc : va_W} {tyc : q_ty} {post : q_O → va_W → q_ty → Prop} (hM : q_Met l y w0 rm D cl as wc tyc post) (hn : T.methodNamed? y = some mk)
    {methY : Method} {cY : Code} {kY : Class} (hmY : T.vm.method? mk = some methY) (hcY : methY.code = some cY) (hkY : T.vm.classes[mk.cls]? = some kY) (hiY : kY.init = .initialized)
    (hws : ∀ w ∈ w0 :: q_big, w.before as.toArray T = true) (hin : q_in D cl wc tyc T.heap.size T)
    (hframes : rm.frames + 1 ≤ R.frames) (hlocals : 2 * g.monitorRoom + (g.stack.map fun v => v.category).sum + (cY.maxLocals + 11) + rm.locals ≤ R.locals) (hcells : cells + rm.cells ≤ R.cells) (hslots : slots + rm.slots ≤ R.slots) :
    ∃ (r : q_O) (w : va_W) (ty : q_ty) (T' : State) (L : List Loc), Stand p l e R s m args below meth c T' (locs ++ L) (cells + rm.cells) (slots + rm.slots) ∧ post r w ty ∧ va_P D cl w T'.heap ∧ va_K D cl ty T' ∧ va_D (va_A wc T.heap.size) w ∧ va_F (va_A wc T.heap.size) T T' ∧ (∀ q ∈ L, va_A wc T.heap.size q.base) ∧
      (match r with
        | .inl v => Steps p.tables e below (doInvoke e (T.setTop g) [] mk as.toArray).1 (T'.setTop { g with pc := g.pc + 3, stack := v.toList ++ g.stack })
        | .inr E => ∃ (q : Addr) (ce : Cell), T'.heap[q]? = some ce ∧ ce.vm = .none ∧ T.vm.findClass E = some ce.cls ∧ q_X q w ∧ Steps p.tables e below (doInvoke e (T.setTop g) [] mk as.toArray).1 ((T'.setTop g).pushFrame (.throwing q))) := by
  have h : At T g.method c below := by rw [hg]; exact X.here
  have happ : (headSpec (w0 :: q_big) rm).appliesLoose y e.platform (T.calling g mk as.toArray) = true :=
    Spec.appliesLoose_calling (g := g) h hdg hn hkY hiY (X.room_calling (g := g) (R' := (headSpec (w0 :: q_big) rm).room) hsize hmY hcY hframes hlocals hcells hslots) (atoms_intro hws)
  obtain ⟨mid, hmid⟩ := h.above
  have hfr : (T.setTop g).frames = (.java g :: mid) ++ below := by rw [State.frames_setTop' g h.top, hmid]; rfl
  obtain ⟨i1, i2, i3, i4, i5, i6⟩ := hin
  have hPc : va_Pc as (q_in D cl wc tyc T.heap.size) as.toArray (T.calling g mk as.toArray) :=
    ⟨rfl, rfl, i2, va_K.moved (u := T) (U := T.calling g mk as.toArray) (Vm.Alike.refl T.vm) i3, i4, q_N.warm (s := T) (U := T.calling g mk as.toArray) (State.WarmedH.refl T) i5, q_St.moved (u := T) (U := T.calling g mk as.toArray) (Vm.Alike.refl T.vm) i6⟩
  obtain ⟨o, s₂, hsteps, -, hend, hq⟩ := Steps.callFree (hM T.heap.size) p X.admits X.cas X.clock (acts := []) hfr happ hPc trivial
  rw [State.frames_setTop' g h.top, X.tail] at hend
  obtain ⟨r, w, ty, L, hp, hP, hK, hD, hF, hW, hsm, hL, ho⟩ := hq
  cases r with
  | inl v =>
    have ho : o = .returned v := ho
    subst ho
    obtain ⟨T', X', hW', hB, ht⟩ := X.outOf hg hdg hend hW hsm
    have hh : s₂.heap = T'.heap := by rw [ht]; rfl
    have hv : s₂.vm = T'.vm := by rw [ht]; rfl
    refine ⟨.inl v, w, ty, T', L, X', hp, by rw [← hh]; exact hP, va_K.moved (by rw [hv]; exact Vm.Alike.refl _) hK, hD, ⟨by rw [← hh]; exact hF.1, fun q h1 h2 => by rw [← hh]; exact hF.2 q h1 h2⟩, hL, ?_⟩
    show Steps p.tables e below _ (T'.setTop _)
    rw [← ht]
    exact hsteps
  | inr E =>
    obtain ⟨q, ce, ho, hce, hcv, hcl, hX⟩ : ∃ (q : Addr) (ce : Cell), o = .threw q ∧ s₂.heap[q]? = some ce ∧ ce.vm = .none ∧ T.vm.findClass E = some ce.cls ∧ q_X q w := ho
    subst ho
    obtain ⟨T', X', hW', hB, ht⟩ := X.outOfThrown hg hend hW hsm
    have hh : s₂.heap = T'.heap := by rw [ht]; exact Stand.throwing_heap T' g q
    have hv : s₂.vm = T'.vm := by rw [ht]; exact Stand.throwing_vm T' g q
    refine ⟨.inr E, w, ty, T', L, X', hp, by rw [← hh]; exact hP, va_K.moved (by rw [hv]; exact Vm.Alike.refl _) hK, hD, ⟨by rw [← hh]; exact hF.1, fun q h1 h2 => by rw [← hh]; exact hF.2 q h1 h2⟩, hL, q, ce, by rw [← hh]; exact hce, hcv, hcl, hX, ?_⟩
    rw [← ht]
    exact hsteps
theorem q_subm {wc : va_W} (h : va_P D cl ws H) (is : List Nat) (hs : is.map (fun i => ws[i]?) = wc.map some) : va_P D cl wc H := by
  intro k q hq
  have h1 : (is.map (fun i => ws[i]?))[k]? = some (some q) := by rw [hs, List.getElem?_map, hq]; rfl
  rw [List.getElem?_map] at h1
  cases hi : is[k]? with
  | none => rw [hi] at h1; cases h1
  | some i => rw [hi] at h1; exact h i q (Option.some.inj h1)
/-- A CALL: the callee gets the cells at the places isC, the rest (isR) stays as it is -/
theorem q_goG {y : MethodName} {w0 : Cond} {rm : Room} {as : List Value} {wc wr : va_W} {tyc tyr : q_ty} {post : q_O → va_W → q_ty → Prop} {maxL : Nat} {ig : Instr} {st0 rest : List Value}
    (C : q_C p s m meth c args cc nL own A) (I : q_I D cl A s ws tys H locs) (S : q_Site p l e R s m args below meth c H locs cells slots y as.toArray (F0 m pc ls st0) rest) (hM : q_Met l y w0 rm D cl as wc tyc post)
    (hw0 : w0 ∈ q_big) (hlim : ∀ (U : State) (mk : MethodId), U.methodNamed? y = some mk → w0.before args U = true → ∃ (meth : Method) (c : Code), U.vm.method? mk = some meth ∧ meth.code = some c ∧ c.maxLocals = maxL) (hini : Cond.initialized y.cls ∈ q_big) (isC isR tC tR : List Nat)
    (hC : isC.map (fun i => ws[i]?) = wc.map some) (hR : isR.map (fun i => ws[i]?) = wr.map some) (hnC : va_nd isC = true) (hnR : va_nd isR = true) (hdis : ∀ i ∈ isR, i ∉ isC) (hTc : tC.filterMap (fun i => tys[i]?) = tyc) (hTr : tR.filterMap (fun i => tys[i]?) = tyr)
    (hls : ls.size = nL) (hdg : decode cc pc = .ok (ig, 3)) (hfr : rm.frames + 1 ≤ R.frames) (hlo : (rest.map fun v => v.category).sum + (maxL + 11) + rm.locals ≤ R.locals) (hce : cells + rm.cells ≤ R.cells) (hsl : slots + rm.slots ≤ R.slots)
    (kk : ∀ (v : Option Value) (w : va_W) (ty : q_ty) (H1 : Heap) (locs1 : List Loc), post (.inl v) w ty → q_I D cl A s (wr ++ w) (tyr ++ ty) H1 locs1 → W p l e R s m args below meth c H1 locs1 (cells + rm.cells) (slots + rm.slots) Q (F0 m (pc + 3) ls (v.toList ++ rest)))
    (kx : ∀ (E : String) (w : va_W) (ty : q_ty) (H1 : Heap) (locs1 : List Loc) (q : Addr) (ce : Cell), post (.inr E) w ty → q_I D cl A s (wr ++ w) (tyr ++ ty) H1 locs1 → H1[q]? = some ce → ce.vm = .none → s.vm.findClass E = some ce.cls → q_X q w → q_W p l e R s m args below meth c H1 locs1 (cells + rm.cells) (slots + rm.slots) Q (F0 m pc ls rest) q) :
    W p l e R s m args below meth c H locs cells slots Q (F0 m pc ls st0) := by
  intro T hT X
  obtain ⟨hx, hb, hml, hown, hbig, hnest, hZ, hA, hlocks, -⟩ := C
  obtain ⟨hP, hD, hK, hS⟩ := I
  obtain ⟨vm₁, mk, X₁, hnamed, hstep⟩ := S T hT X
  have hW₁ := X₁.warmed
  have hn₁ : (T.setVm vm₁).methodNamed? y = some mk := X₁.named hnamed
  obtain ⟨methY, cY, hmY, hcY, hlY⟩ := hlim _ _ hn₁ (word_at (a' := args) hW₁ (good_of_word (q_big_ok _ hw0)) (hbig _ hw0))
  obtain ⟨kY, hkY, -⟩ := className_of_methodNamed hn₁
  have hiY : kY.init = .initialized := Cond.initialized_spec (args := args) (findClass_of_methodNamed hn₁) hkY (word_at (a' := args) hW₁ (good_of_word (q_big_ok _ hini)) (hbig _ hini))
  have hFc := va_free (wc := wc) hD hS hA isC hC
  have hg9 : (F0 m pc ls rest).monitorRoom = 0 := rfl
  obtain ⟨r, w, ty, T', L, X', hp, hP1, hK1, hD1, hF1, hL, hst⟩ := q_land X₁ (g := F0 m pc ls rest) rfl (hls.trans hml.symm) (by rw [hb]; exact hdg) hM hn₁ hmY hcY hkY hiY
    (fun w hw => by
      rcases List.mem_cons.mp hw with rfl | hw
      · exact word_at hW₁ (good_of_word (q_big_ok _ hw0)) (hbig _ hw0)
      · exact word_at hW₁ (good_of_word (q_big_ok _ hw)) (hbig _ hw))
    ⟨rfl, by rw [show (T.setVm vm₁).heap = H from hT]; exact q_subm hP isC hC, va_K.moved hW₁.alike (hK.sub tC hTc), (hD.sub isC hnC hC).weaken (fun _ _ _ _ => trivial), hnest.warm hW₁, by
      rw [show (T.setVm vm₁).heap = H from hT]
      exact q_St.moved hW₁.alike ((hZ.kept hS.2.1).narrow hFc)⟩
    hfr (by rw [hg9, hlY]; simpa using hlo) hce hsl
  have hT1 : (T.setVm vm₁).heap = H := hT
  rw [hT1] at hD1 hL
  obtain ⟨hz, hk⟩ := hF1
  rw [hT1] at hz hk
  obtain ⟨hPj, hDj⟩ := va_join (wr := wr) (w1 := w) hP hD isC isR hC hR hnR hdis hk hFc hP1 hD1
  have hSj : va_S A s.heap T'.heap (locs ++ L) := ⟨Nat.le_trans hS.1 hz, fun q h1 h2 => by rw [hk q (Nat.lt_of_lt_of_le h1 hS.1) (fun z => h2 (hFc q z))]; exact hS.2.1 q h1 h2, fun q hq => by
    rcases List.mem_append.mp hq with h | h
    · exact hS.2.2 q h
    · exact hFc _ (hL q h)⟩
  have hIj : q_I D cl A s (wr ++ w) (tyr ++ ty) T'.heap (locs ++ L) := ⟨hPj, hDj, (hK.sub tR hTr).app (va_K.moved X'.warmed.alike.symm hK1), hSj⟩
  cases r with
  | inl v =>
    obtain ⟨t, a1, b1⟩ := kk v w ty T'.heap (locs ++ L) hp hIj T' rfl X'
    have hst : Steps p.tables e below (doInvoke e ((T.setVm vm₁).setTop (F0 m pc ls rest)) [] mk as.toArray).1 (T'.setTop (F0 m (pc + 3) ls (v.toList ++ rest))) := hst
    exact ⟨t, hstep t (fun acts => by rw [doInvoke_state]; exact hst.trans a1), b1⟩
  | inr E =>
    obtain ⟨q, ce, hq, hcv, hcl, hX, hst⟩ := hst
    have hcl : s.vm.findClass E = some ce.cls := by rw [← hW₁.alike.findClass]; exact hcl
    obtain ⟨t, a1, b1⟩ := kx E w ty T'.heap (locs ++ L) q ce hp hIj hq hcv hcl hX T' rfl X'
    exact ⟨t, hstep t (fun acts => by rw [doInvoke_state]; exact hst.trans a1), b1⟩
theorem q_go {y : MethodName} {rm : Room} {as : List Value} {wc wr : va_W} {tyc tyr : q_ty} {post : q_O → va_W → q_ty → Prop} {bytes : ByteArray} {maxL : Nat} {ret : Option FieldType} {ig : Instr} {st0 rest : List Value}
    (C : q_C p s m meth c args cc nL own A) (I : q_I D cl A s ws tys H locs) (S : q_Site p l e R s m args below meth c H locs cells slots y as.toArray (F0 m pc ls st0) rest) (hM : q_Met l y (.code y bytes maxL ret) rm D cl as wc tyc post)
    (hw0 : Cond.code y bytes maxL ret ∈ q_big) (hini : Cond.initialized y.cls ∈ q_big) (isC isR tC tR : List Nat)
    (hC : isC.map (fun i => ws[i]?) = wc.map some) (hR : isR.map (fun i => ws[i]?) = wr.map some) (hnC : va_nd isC = true) (hnR : va_nd isR = true) (hdis : ∀ i ∈ isR, i ∉ isC) (hTc : tC.filterMap (fun i => tys[i]?) = tyc) (hTr : tR.filterMap (fun i => tys[i]?) = tyr)
    (hls : ls.size = nL) (hdg : decode cc pc = .ok (ig, 3)) (hfr : rm.frames + 1 ≤ R.frames) (hlo : (rest.map fun v => v.category).sum + (maxL + 11) + rm.locals ≤ R.locals) (hce : cells + rm.cells ≤ R.cells) (hsl : slots + rm.slots ≤ R.slots)
    (kk : ∀ (v : Option Value) (w : va_W) (ty : q_ty) (H1 : Heap) (locs1 : List Loc), post (.inl v) w ty → q_I D cl A s (wr ++ w) (tyr ++ ty) H1 locs1 → W p l e R s m args below meth c H1 locs1 (cells + rm.cells) (slots + rm.slots) Q (F0 m (pc + 3) ls (v.toList ++ rest)))
    (kx : ∀ (E : String) (w : va_W) (ty : q_ty) (H1 : Heap) (locs1 : List Loc) (q : Addr) (ce : Cell), post (.inr E) w ty → q_I D cl A s (wr ++ w) (tyr ++ ty) H1 locs1 → H1[q]? = some ce → ce.vm = .none → s.vm.findClass E = some ce.cls → q_X q w → q_W p l e R s m args below meth c H1 locs1 (cells + rm.cells) (slots + rm.slots) Q (F0 m pc ls rest) q) :
    W p l e R s m args below meth c H locs cells slots Q (F0 m pc ls st0) :=
  q_goG C I S hM hw0 (fun U mk hn h => by
    obtain ⟨methY, cY, hmY, hcY, -, hlY, -⟩ := Cond.code_spec hn h
    exact ⟨methY, cY, hmY, hcY, hlY⟩) hini isC isR tC tR hC hR hnC hnR hdis hTc hTr hls hdg hfr hlo hce hsl kk kx
/-- .. of a method with an exception table -/
theorem q_goW {hh : List (Nat × Nat × Nat × Nat)} {y : MethodName} {rm : Room} {as : List Value} {wc wr : va_W} {tyc tyr : q_ty} {post : q_O → va_W → q_ty → Prop} {bytes : ByteArray} {maxL : Nat} {ret : Option FieldType} {ig : Instr} {st0 rest : List Value}
    (C : q_C p s m meth c args cc nL own A) (I : q_I D cl A s ws tys H locs) (S : q_Site p l e R s m args below meth c H locs cells slots y as.toArray (F0 m pc ls st0) rest) (hM : q_Met l y (.codeWith y bytes maxL ret hh) rm D cl as wc tyc post)
    (hw0 : Cond.codeWith y bytes maxL ret hh ∈ q_big) (hini : Cond.initialized y.cls ∈ q_big) (isC isR tC tR : List Nat)
    (hC : isC.map (fun i => ws[i]?) = wc.map some) (hR : isR.map (fun i => ws[i]?) = wr.map some) (hnC : va_nd isC = true) (hnR : va_nd isR = true) (hdis : ∀ i ∈ isR, i ∉ isC) (hTc : tC.filterMap (fun i => tys[i]?) = tyc) (hTr : tR.filterMap (fun i => tys[i]?) = tyr)
    (hls : ls.size = nL) (hdg : decode cc pc = .ok (ig, 3)) (hfr : rm.frames + 1 ≤ R.frames) (hlo : (rest.map fun v => v.category).sum + (maxL + 11) + rm.locals ≤ R.locals) (hce : cells + rm.cells ≤ R.cells) (hsl : slots + rm.slots ≤ R.slots)
    (kk : ∀ (v : Option Value) (w : va_W) (ty : q_ty) (H1 : Heap) (locs1 : List Loc), post (.inl v) w ty → q_I D cl A s (wr ++ w) (tyr ++ ty) H1 locs1 → W p l e R s m args below meth c H1 locs1 (cells + rm.cells) (slots + rm.slots) Q (F0 m (pc + 3) ls (v.toList ++ rest)))
    (kx : ∀ (E : String) (w : va_W) (ty : q_ty) (H1 : Heap) (locs1 : List Loc) (q : Addr) (ce : Cell), post (.inr E) w ty → q_I D cl A s (wr ++ w) (tyr ++ ty) H1 locs1 → H1[q]? = some ce → ce.vm = .none → s.vm.findClass E = some ce.cls → q_X q w → q_W p l e R s m args below meth c H1 locs1 (cells + rm.cells) (slots + rm.slots) Q (F0 m pc ls rest) q) :
    W p l e R s m args below meth c H locs cells slots Q (F0 m pc ls st0) :=
  q_goG C I S hM hw0 (fun U mk hn h => by
    obtain ⟨mk', methY, cY, hn', hmY, hcY, -, hlY, -⟩ := Cond.codeWith_spec h
    cases hn.symm.trans hn'
    exact ⟨methY, cY, hmY, hcY, hlY⟩) hini isC isR tC tR hC hR hnC hnR hdis hTc hTr hls hdg hfr hlo hce hsl kk kx
/-! the kinds of calls -/
section Sites
variable {y : MethodName} {bytes : ByteArray} {maxL index : Nat} {ret : Option FieldType} {As rest st0 : List Value} {b : Addr} {host : String}
theorem q_len {n : Nat} (hd : (parseMethodDescriptor y.desc).map (fun d => d.parameters.length) = some n) : ∀ sig, parseMethodDescriptor y.desc = some sig → n = sig.parameters.length := fun sig h => by
  rw [h] at hd
  exact (Option.some.inj hd).symm
theorem q_siteV {ci q0 : Nat} {fs : List Value} {T0 : u_T} {N0 : Nat} (C : q_C p s m meth c args cc nL own A) (I : q_I D cl A s ws tys H locs) (he : ws[q0]? = some (b, .inr (ci, fs))) (hcl : cl[ci]? = some (y.cls, T0, N0))
    (hl : Cond.methodLink own index y ∈ q_big) (hi : Cond.instanceMethod y ∈ q_big) (hse : Cond.selects y.cls y y ∈ q_big) (hco : Cond.code y bytes maxL ret ∈ q_big) (hy : y.cls ≠ "java/lang/invoke/MethodHandle" ∧ y.cls ≠ "java/lang/invoke/VarHandle")
    (hd : (parseMethodDescriptor y.desc).map (fun d => d.parameters.length) = some As.length) (hst : st0 = As.reverse ++ .ref b :: rest) (hdg : decode cc pc = .ok (.invokevirtual index, 3)) :
    q_Site p l e R s m args below meth c H locs cells slots y (Value.ref b :: As).toArray (F0 m pc ls st0) rest := by
  intro T hT X
  obtain ⟨hx, hb, hml, hown, hbig, -⟩ := C
  obtain ⟨cellB, hcB, hoB, hcls⟩ := va_recv I.2.2.1 I.1 hcl he
  obtain ⟨mk, methM, hnamed, hmethM, hstM, habM⟩ := Cond.instanceMethod_spec (hbig _ hi)
  obtain ⟨methM', cM, hmethM', -, -, -, -, -, -, hsigM⟩ := Cond.code_spec hnamed (hbig _ hco)
  cases hmethM.symm.trans hmethM'
  obtain ⟨c2, r2, m2, q1, q2, q3, q4, kP, hkP, hkPi⟩ := Cond.selects_spec (hbig _ hse)
  cases hcls.symm.trans q1
  cases (State.methodFound?_of_named hnamed hy).symm.trans q2
  cases hnamed.symm.trans q3
  have hselP : selectMethod e.platform s.vm cellB.cls mk = .method mk := by rw [Launch.admits_selectMethod X.admits]; exact q4
  obtain ⟨vm₁, X₁, hstep₁⟩ := X.invokevirtual hx hown (hbig _ hl) hnamed hmethM hstM hkP hkPi hy (a := b) (cell := cellB) (by rw [hT]; exact hcB)
    (fun z h => by rw [h] at hoB; cases hoB) hselP hmethM habM hkP hkPi (g := F0 m pc ls st0) rfl (argsL := As) (rest := rest) (q_len hd _ hsigM) hst (by rw [hb]; exact hdg)
  exact ⟨vm₁, mk, X₁, hnamed, hstep₁⟩
theorem q_siteVN {ci q0 : Nat} {fs : List Value} {T0 : u_T} {N0 : Nat} (C : q_C p s m meth c args cc nL own A) (I : q_I D cl A s ws tys H locs) (he : ws[q0]? = some (b, .inr (ci, fs))) (hcl : cl[ci]? = some (y.cls, T0, N0))
    (hl : Cond.methodLinkNest own index y host ∈ q_nest) (hi : Cond.instanceMethod y ∈ q_big) (hse : Cond.selects y.cls y y ∈ q_big) (hco : Cond.code y bytes maxL ret ∈ q_big) (hy : y.cls ≠ "java/lang/invoke/MethodHandle" ∧ y.cls ≠ "java/lang/invoke/VarHandle")
    (hd : (parseMethodDescriptor y.desc).map (fun d => d.parameters.length) = some As.length) (hst : st0 = As.reverse ++ .ref b :: rest) (hdg : decode cc pc = .ok (.invokevirtual index, 3)) :
    q_Site p l e R s m args below meth c H locs cells slots y (Value.ref b :: As).toArray (F0 m pc ls st0) rest := by
  intro T hT X
  obtain ⟨hx, hb, hml, hown, hbig, hnest, -⟩ := C
  obtain ⟨cellB, hcB, hoB, hcls⟩ := va_recv I.2.2.1 I.1 hcl he
  obtain ⟨mk, methM, hnamed, hmethM, hstM, habM⟩ := Cond.instanceMethod_spec (hbig _ hi)
  obtain ⟨methM', cM, hmethM', -, -, -, -, -, -, hsigM⟩ := Cond.code_spec hnamed (hbig _ hco)
  cases hmethM.symm.trans hmethM'
  obtain ⟨c2, r2, m2, q1, q2, q3, q4, kP, hkP, hkPi⟩ := Cond.selects_spec (hbig _ hse)
  cases hcls.symm.trans q1
  cases (State.methodFound?_of_named hnamed hy).symm.trans q2
  cases hnamed.symm.trans q3
  have hselP : selectMethod e.platform s.vm cellB.cls mk = .method mk := by rw [Launch.admits_selectMethod X.admits]; exact q4
  obtain ⟨vm₁, X₁, hstep₁⟩ := X.invokevirtualNest hx hown (va_Nw.use (A := args) rfl (hnest.1 _ hl)) hnamed hmethM hstM hkP hkPi hy (a := b) (cell := cellB) (by rw [hT]; exact hcB)
    (fun z h => by rw [h] at hoB; cases hoB) hselP hmethM habM hkP hkPi (g := F0 m pc ls st0) rfl (argsL := As) (rest := rest) (q_len hd _ hsigM) hst (by rw [hb]; exact hdg)
  exact ⟨vm₁, mk, X₁, hnamed, hstep₁⟩
theorem q_siteI (C : q_C p s m meth c args cc nL own A) (hy1 : y.name = "<init>") (hl : Cond.methodLink own index y ∈ q_big) (hi : Cond.instanceMethod y ∈ q_big) (hco : Cond.code y bytes maxL none ∈ q_big) (hy : y.cls ≠ "java/lang/invoke/MethodHandle" ∧ y.cls ≠ "java/lang/invoke/VarHandle")
    (hd : (parseMethodDescriptor y.desc).map (fun d => d.parameters.length) = some As.length) (hst : st0 = As.reverse ++ .ref b :: rest) (hdg : decode cc pc = .ok (.invokespecial index, 3)) :
    q_Site p l e R s m args below meth c H locs cells slots y (Value.ref b :: As).toArray (F0 m pc ls st0) rest := by
  intro T hT X
  obtain ⟨hx, hb, hml, hown, hbig, -⟩ := C
  have hpl : e.platform.magicAccessors = ({} : Platform).magicAccessors := by rw [X.admits.platform]
  obtain ⟨mk, methM, cM, kP, vm₁, hnamed, hmethM, hcodeM, -, hlocalsM, -, hkP, -, hW₁, hstep₁⟩ := Steps.initColdArgs (e := e) X.here hx X.warmed hpl hown hy1 hy (hbig _ hl) (hbig _ hi) (hbig _ hco) (f := F0 m pc ls st0) rfl (q_len hd) hst (by rw [hb]; exact hdg)
  exact ⟨vm₁, mk, X.noted hW₁, hnamed, hstep₁⟩
theorem q_siteIN (C : q_C p s m meth c args cc nL own A) (hy1 : y.name = "<init>") (hl : Cond.methodLinkNest own index y host ∈ q_nest) (hi : Cond.instanceMethod y ∈ q_big) (hco : Cond.code y bytes maxL none ∈ q_big) (hy : y.cls ≠ "java/lang/invoke/MethodHandle" ∧ y.cls ≠ "java/lang/invoke/VarHandle")
    (hd : (parseMethodDescriptor y.desc).map (fun d => d.parameters.length) = some As.length) (hst : st0 = As.reverse ++ .ref b :: rest) (hdg : decode cc pc = .ok (.invokespecial index, 3)) :
    q_Site p l e R s m args below meth c H locs cells slots y (Value.ref b :: As).toArray (F0 m pc ls st0) rest := by
  intro T hT X
  obtain ⟨hx, hb, hml, hown, hbig, hnest, -⟩ := C
  have hpl : e.platform.magicAccessors = ({} : Platform).magicAccessors := by rw [X.admits.platform]
  obtain ⟨mk, methM, cM, kP, vm₁, hnamed, hmethM, hcodeM, -, hlocalsM, -, hkP, -, hW₁, hstep₁⟩ := Steps.initColdArgsNest (e := e) X.here hx X.warmed hpl hown hy1 hy (va_Nw.use (A := args) rfl (hnest.1 _ hl)) (hbig _ hi) (hbig _ hco) (f := F0 m pc ls st0) rfl (q_len hd) hst (by rw [hb]; exact hdg)
  exact ⟨vm₁, mk, X.noted hW₁, hnamed, hstep₁⟩
theorem q_siteS (C : q_C p s m meth c args cc nL own A) (hl : Cond.methodLink own index y ∈ q_big) (hi : Cond.static y ∈ q_big) (hini : Cond.initialized y.cls ∈ q_big) (hco : Cond.code y bytes maxL ret ∈ q_big) (hy : y.cls ≠ "java/lang/invoke/MethodHandle" ∧ y.cls ≠ "java/lang/invoke/VarHandle")
    (hd : (parseMethodDescriptor y.desc).map (fun d => d.parameters.length) = some As.length) (hst : st0 = As.reverse ++ rest) (hdg : decode cc pc = .ok (.invokestatic index, 3)) :
    q_Site p l e R s m args below meth c H locs cells slots y As.toArray (F0 m pc ls st0) rest := by
  intro T hT X
  obtain ⟨hx, hb, hml, hown, hbig, -⟩ := C
  obtain ⟨mk, hnamed⟩ := Cond.code_named (hbig _ hco)
  obtain ⟨methM, cM, hmethM, -, -, -, -, -, -, hsigM⟩ := Cond.code_spec hnamed (hbig _ hco)
  have hstatic : methM.isStatic = true := Cond.static_spec hnamed hmethM (hbig _ hi)
  obtain ⟨kP, hkP, -⟩ := className_of_methodNamed hnamed
  have hinitP : kP.init = .initialized := Cond.initialized_spec (findClass_of_methodNamed hnamed) hkP (hbig _ hini)
  obtain ⟨vm₁, X₁, hstep₁⟩ := X.invokestatic hx hown (hbig _ hl) hnamed hmethM hstatic hkP hinitP hy (g := F0 m pc ls st0) rfl (argsL := As) (rest := rest) (q_len hd _ hsigM) hst (by rw [hb]; exact hdg)
  exact ⟨vm₁, mk, X₁, hnamed, hstep₁⟩
theorem q_siteVW {hh : List (Nat × Nat × Nat × Nat)} {ci q0 : Nat} {fs : List Value} {T0 : u_T} {N0 : Nat} (C : q_C p s m meth c args cc nL own A) (I : q_I D cl A s ws tys H locs) (he : ws[q0]? = some (b, .inr (ci, fs))) (hcl : cl[ci]? = some (y.cls, T0, N0))
    (hl : Cond.methodLink own index y ∈ q_big) (hi : Cond.instanceMethod y ∈ q_big) (hse : Cond.selects y.cls y y ∈ q_big) (hco : Cond.codeWith y bytes maxL ret hh ∈ q_big) (hy : y.cls ≠ "java/lang/invoke/MethodHandle" ∧ y.cls ≠ "java/lang/invoke/VarHandle")
    (hd : (parseMethodDescriptor y.desc).map (fun d => d.parameters.length) = some As.length) (hst : st0 = As.reverse ++ .ref b :: rest) (hdg : decode cc pc = .ok (.invokevirtual index, 3)) :
    q_Site p l e R s m args below meth c H locs cells slots y (Value.ref b :: As).toArray (F0 m pc ls st0) rest := by
  intro T hT X
  obtain ⟨hx, hb, hml, hown, hbig, -⟩ := C
  obtain ⟨cellB, hcB, hoB, hcls⟩ := va_recv I.2.2.1 I.1 hcl he
  obtain ⟨mk, methM, hnamed, hmethM, hstM, habM⟩ := Cond.instanceMethod_spec (hbig _ hi)
  obtain ⟨mk', methM', cM, hnamed', hmethM', -, -, -, -, -, -, hsigM⟩ := Cond.codeWith_spec (hbig _ hco)
  cases hnamed.symm.trans hnamed'
  cases hmethM.symm.trans hmethM'
  obtain ⟨c2, r2, m2, q1, q2, q3, q4, kP, hkP, hkPi⟩ := Cond.selects_spec (hbig _ hse)
  cases hcls.symm.trans q1
  cases (State.methodFound?_of_named hnamed hy).symm.trans q2
  cases hnamed.symm.trans q3
  have hselP : selectMethod e.platform s.vm cellB.cls mk = .method mk := by rw [Launch.admits_selectMethod X.admits]; exact q4
  obtain ⟨vm₁, X₁, hstep₁⟩ := X.invokevirtual hx hown (hbig _ hl) hnamed hmethM hstM hkP hkPi hy (a := b) (cell := cellB) (by rw [hT]; exact hcB)
    (fun z h => by rw [h] at hoB; cases hoB) hselP hmethM habM hkP hkPi (g := F0 m pc ls st0) rfl (argsL := As) (rest := rest) (q_len hd _ hsigM) hst (by rw [hb]; exact hdg)
  exact ⟨vm₁, mk, X₁, hnamed, hstep₁⟩
theorem q_siteSW {hh : List (Nat × Nat × Nat × Nat)} (C : q_C p s m meth c args cc nL own A) (hl : Cond.methodLink own index y ∈ q_big) (hi : Cond.static y ∈ q_big) (hini : Cond.initialized y.cls ∈ q_big) (hco : Cond.codeWith y bytes maxL ret hh ∈ q_big) (hy : y.cls ≠ "java/lang/invoke/MethodHandle" ∧ y.cls ≠ "java/lang/invoke/VarHandle")
    (hd : (parseMethodDescriptor y.desc).map (fun d => d.parameters.length) = some As.length) (hst : st0 = As.reverse ++ rest) (hdg : decode cc pc = .ok (.invokestatic index, 3)) :
    q_Site p l e R s m args below meth c H locs cells slots y As.toArray (F0 m pc ls st0) rest := by
  intro T hT X
  obtain ⟨hx, hb, hml, hown, hbig, -⟩ := C
  obtain ⟨mk, methM, cM, hnamed, hmethM, -, -, -, -, -, -, hsigM⟩ := Cond.codeWith_spec (hbig _ hco)
  have hstatic : methM.isStatic = true := Cond.static_spec hnamed hmethM (hbig _ hi)
  obtain ⟨kP, hkP, -⟩ := className_of_methodNamed hnamed
  have hinitP : kP.init = .initialized := Cond.initialized_spec (findClass_of_methodNamed hnamed) hkP (hbig _ hini)
  obtain ⟨vm₁, X₁, hstep₁⟩ := X.invokestatic hx hown (hbig _ hl) hnamed hmethM hstatic hkP hinitP hy (g := F0 m pc ls st0) rfl (argsL := As) (rest := rest) (q_len hd _ hsigM) hst (by rw [hb]; exact hdg)
  exact ⟨vm₁, mk, X₁, hnamed, hstep₁⟩
theorem q_siteSN (C : q_C p s m meth c args cc nL own A) (hl : Cond.methodLinkNest own index y host ∈ q_nest) (hi : Cond.static y ∈ q_big) (hini : Cond.initialized y.cls ∈ q_big) (hco : Cond.code y bytes maxL ret ∈ q_big) (hy : y.cls ≠ "java/lang/invoke/MethodHandle" ∧ y.cls ≠ "java/lang/invoke/VarHandle")
    (hd : (parseMethodDescriptor y.desc).map (fun d => d.parameters.length) = some As.length) (hst : st0 = As.reverse ++ rest) (hdg : decode cc pc = .ok (.invokestatic index, 3)) :
    q_Site p l e R s m args below meth c H locs cells slots y As.toArray (F0 m pc ls st0) rest := by
  intro T hT X
  obtain ⟨hx, hb, hml, hown, hbig, hnest, -⟩ := C
  obtain ⟨mk, hnamed⟩ := Cond.code_named (hbig _ hco)
  obtain ⟨methM, cM, hmethM, -, -, -, -, -, -, hsigM⟩ := Cond.code_spec hnamed (hbig _ hco)
  have hstatic : methM.isStatic = true := Cond.static_spec hnamed hmethM (hbig _ hi)
  obtain ⟨kP, hkP, -⟩ := className_of_methodNamed hnamed
  have hinitP : kP.init = .initialized := Cond.initialized_spec (findClass_of_methodNamed hnamed) hkP (hbig _ hini)
  obtain ⟨vm₁, X₁, hstep₁⟩ := X.invokestaticNest hx hown (va_Nw.use (A := args) rfl (hnest.1 _ hl)) hnamed hmethM hstatic hkP hinitP hy (g := F0 m pc ls st0) rfl (argsL := As) (rest := rest) (q_len hd _ hsigM) hst (by rw [hb]; exact hdg)
  exact ⟨vm₁, mk, X₁, hnamed, hstep₁⟩
end Sites
end QF
