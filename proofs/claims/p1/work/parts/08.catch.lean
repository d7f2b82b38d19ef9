/-! what was thrown is caught by a row of the method's own table; the row's class may be resolved just now -/
section QH
variable {e : Env} {s : State} {f : JFrame} {a : Addr}
/-- a row that covers the place and names a class: it takes the object or the next rows are asked; the class is noted as resolved -/
theorem q_row {Q : Handler → Pre} {E : CtlPost} {d : Bool} {acts : List Action} {x : ExceptionTableEntry} {t : List ExceptionTableEntry} {c : ClassId} {cell : Cell} (hx : covers x f.pc = true) (h0 : x.catchType ≠ 0) (hl : s.vm.ClassLinks e.platform f.method.cls x.catchType c) (hcell : s.heap[a]? = some cell) (hobj : ∀ k, cell.vm ≠ .statics k) (hk : ∃ k, s.vm.classes[cell.cls]? = some k) (hc : ∃ k, s.vm.classes[c]? = some k) :
    wp (findHandler.go f a (x :: t)) Q E e d acts s ↔ (if s.vm.assignable cell.cls c = true then Q (.found x.handlerPc) d acts (s.setVm (s.vm.noted f.method.cls x.catchType (.cls c))) else wp (findHandler.go f a t) Q E e d acts (s.setVm (s.vm.noted f.method.cls x.catchType (.cls c)))) := by
  simp only [covers] at hx
  obtain ⟨h1, h2⟩ := (resolveClass_links e.toSetting hl).op (op := VmOp.resolveClass f.method.cls x.catchType) rfl
  have hal : s.vm.Alike (s.vm.noted f.method.cls x.catchType (.cls c)) := (Vm.Alike.refl s.vm).noted _ _ _
  obtain ⟨k1, hk⟩ := hk
  obtain ⟨k2, hc⟩ := hc
  obtain ⟨k3, hk3, -⟩ := hal.2.2 _ _ hk
  obtain ⟨k4, hk4, -⟩ := hal.2.2 _ _ hc
  have hq : (s.vm.noted f.method.cls x.catchType (.cls c)).assignable cell.cls c = s.vm.assignable cell.cls c := hal.assignable ..
  by_cases hf : s.vm.assignable cell.cls c = true
  · rw [if_pos hf]
    rw [hf] at hq
    simp [findHandler.go, hx, h0, h1, h2, hcell, hobj, hk3, hk4, hq, VmOp.dirties, VmOp.acts]
  · rw [if_neg hf]
    rw [Bool.not_eq_true] at hf
    rw [hf] at hq
    simp [findHandler.go, hx, h0, h1, h2, hcell, hobj, hk3, hk4, hq, VmOp.dirties, VmOp.acts]
/-- the search through rows that don't take the object, up to one that does -/
theorem q_rows {s0 : State} {cell : Cell} (hobj : ∀ k, cell.vm ≠ .statics k) (hk0 : ∃ k, s0.vm.classes[cell.cls]? = some k) {x : ExceptionTableEntry} {suf : List ExceptionTableEntry} (hx : covers x f.pc = true) (h0 : x.catchType ≠ 0) {cx : ClassId} (hlx : s0.vm.ClassLinks e.platform f.method.cls x.catchType cx) (hfx : s0.vm.assignable cell.cls cx = true) :
    ∀ (pre : List ExceptionTableEntry) (S : State), s0.WarmedH S.vm → S.heap[a]? = some cell → (∀ y ∈ pre, covers y f.pc = false ∨ (y.catchType ≠ 0 ∧ ∃ cy, s0.vm.ClassLinks e.platform f.method.cls y.catchType cy ∧ s0.vm.assignable cell.cls cy = false)) →
      ∃ vm', s0.WarmedH vm' ∧ ∀ (Q : Handler → Pre) (E : CtlPost) (d : Bool) (acts : List Action), wp (findHandler.go f a (pre ++ x :: suf)) Q E e d acts S ↔ Q (.found x.handlerPc) d acts (S.setVm vm') := by
  have step : ∀ {y : ExceptionTableEntry} {cy : ClassId} {S : State}, s0.WarmedH S.vm → s0.vm.ClassLinks e.platform f.method.cls y.catchType cy → (∃ k, S.vm.classes[cell.cls]? = some k) ∧ (∃ k, S.vm.classes[cy]? = some k) ∧ s0.WarmedH (S.vm.noted f.method.cls y.catchType (.cls cy)) := by
    intro y cy S hW hl
    obtain ⟨k, hk⟩ := hk0
    obtain ⟨k', hk', -⟩ := hW.alike.2.2 _ _ hk
    obtain ⟨dk, _, _, kt, hd, _, _, _, _, hkt, _, hopen⟩ := hl.here
    obtain ⟨kt', hkt', -⟩ := hW.alike.2.2 _ _ hkt
    exact ⟨⟨k', hk'⟩, ⟨kt', hkt'⟩, hW.noted hd hopen (State.rightAt_cls hl)⟩
  intro pre
  induction pre with
  | nil =>
    intro S hW hcell _
    obtain ⟨a1, a2, a3⟩ := step (y := x) hW hlx
    exact ⟨_, a3, fun Q E d acts => by
      rw [List.nil_append, q_row hx h0 (hW.classLinks hlx) hcell hobj a1 a2, if_pos (by rw [hW.alike.assignable]; exact hfx)]⟩
  | cons y ys ih =>
    intro S hW hcell hpass
    by_cases hy : covers y f.pc = true
    · rcases hpass y List.mem_cons_self with h | ⟨hy0, cy, hl, hno⟩
      · rw [h] at hy; cases hy
      · obtain ⟨a1, a2, a3⟩ := step (y := y) hW hl
        obtain ⟨vm', b1, b2⟩ := ih (S.setVm (S.vm.noted f.method.cls y.catchType (.cls cy))) a3 hcell (fun z hz => hpass z (List.mem_cons_of_mem _ hz))
        exact ⟨vm', b1, fun Q E d acts => by
          rw [List.cons_append, q_row hy hy0 (hW.classLinks hl) hcell hobj a1 a2, if_neg (by rw [hW.alike.assignable, hno]; decide)]
          exact b2 Q E d acts⟩
    · obtain ⟨vm', b1, b2⟩ := ih S hW hcell (fun z hz => hpass z (List.mem_cons_of_mem _ hz))
      exact ⟨vm', b1, fun Q E d acts => by
        rw [List.cons_append, W.findHandler_go_skip (by simpa using hy)]
        exact b2 Q E d acts⟩
end QH
section QC
variable {p : Program} {l : Launch} {e : Env} {R : Room} {s : State} {m : MethodId} {args : Array Value} {below : List Frame} {meth : Method} {c : Code} {H : Heap} {locs : List Loc} {cells slots : Nat} {Q : State → Prop}
variable {A : Nat → Prop} {cc : ByteArray} {nL : Nat} {own : String} {pc : Nat} {ls : Array Slot} {rest : List Value}
/-- the step into the handler -/
theorem q_into {T : State} {g : JFrame} {q : Addr} {hp : Nat} {vm' : Vm} (h : At T g.method c below) (hf : ∀ (Q : Handler → Pre) (E : CtlPost) (d : Bool) (acts : List Action), wp (findHandler g q) Q E e d acts ((T.setTop g).pushFrame (.throwing q)) ↔ Q (.found hp) d acts (((T.setTop g).pushFrame (.throwing q)).setVm vm'))
    {t : State} (hrest : Steps p.tables e below ((T.setVm vm').setTop { g with pc := hp, stack := [.ref q] }) t) : Steps p.tables e below ((T.setTop g).pushFrame (.throwing q)) t := by
  obtain ⟨hgo, hw⟩ := h.throwing q
  refine Steps.head hgo hw ?_
  obtain ⟨g₀, hg⟩ := Option.isSome_iff_exists.mp h.top
  obtain ⟨r, hr⟩ := State.topJava?_eq_some.mp hg
  have hst : (stepThrowing e ((T.setTop g).pushFrame (.throwing q)) q (.java g :: r)).Is ((((T.setTop g).pushFrame (.throwing q)).setVm vm').setFrames (.java { g with pc := hp, stack := [.ref q] } :: r)) [] := by
    simp only [stepThrowing, searchFrame, vmDo]
    generalize hr9 : Sem.go _ e false [] ((T.setTop g).pushFrame (.throwing q)) = res
    obtain ⟨as, rfl, ha⟩ := Sem.eq_ok_of hr9 (a := Handler.found hp) (s' := ((T.setTop g).pushFrame (.throwing q)).setVm vm') (acts' := []) (by simp [hf _ _ _ _])
    exact ⟨rfl, ha⟩
  have hfr := frames_entered (g := g) h.top (.throwing q)
  rw [hr, List.tail_cons] at hfr
  rw [stepThread_throwing hfr, hst.1]
  have hr' : (T.setVm vm').frames = .java g₀ :: r := hr
  rw [State.setTop_of_frames _ hr'] at hrest
  have e1 : (((T.setTop g).pushFrame (.throwing q)).setVm vm').setFrames (.java { g with pc := hp, stack := [.ref q] } :: r) = (T.setVm vm').setFrames (.java { g with pc := hp, stack := [.ref q] } :: r) := by
    rw [State.pushFrame, State.setTop_of_frames _ hr, State.setFrames_setFrames]
    show ((T.setVm vm').setFrames _).setFrames _ = _
    rw [State.setFrames_setFrames]
  rw [e1]
  exact hrest
/-- CAUGHT by the row x; the rows ahead (pre) don't cover the place, or name a class that the object isn't of -/
theorem q_catch {name E : String} {ce : Cell} {q : Addr} (C : q_C p s m meth c args cc nL own A) (pre : List ExceptionTableEntry) (x : ExceptionTableEntry) (suf : List ExceptionTableEntry) (hsplit : c.exceptionTable.toList = pre ++ x :: suf)
    (hpass : ∀ z ∈ pre, covers z pc = false ∨ (z.catchType ≠ 0 ∧ ∃ nm : String, Cond.classLink own z.catchType nm ∈ q_big ∧ (E, nm) ∈ q_ncs)) (hx : covers x pc = true) (h0 : x.catchType ≠ 0)
    (hlink : Cond.classLink own x.catchType name ∈ q_big) (hcast : Cond.castable E name ∈ q_nest) (hcell : H[q]? = some ce) (hv : ce.vm = .none) (hcl : s.vm.findClass E = some ce.cls)
    (kk : W p l e R s m args below meth c H locs cells slots Q (F0 m x.handlerPc ls [.ref q])) : q_W p l e R s m args below meth c H locs cells slots Q (F0 m pc ls rest) q := by
  intro T hT X
  obtain ⟨-, -, -, hown, hbig, hnest, -⟩ := C
  have hpl : e.platform.magicAccessors = ({} : Platform).magicAccessors := by rw [X.admits.platform]
  obtain ⟨c3, c4, hc3, hc4, hasg⟩ := Cond.castable_spec (va_Nw.use (A := args) rfl (hnest.1 _ hcast))
  cases Option.some.inj (hc3.symm.trans hcl)
  obtain ⟨c5, hc5, hcl5⟩ := Cond.classLink_spec hown (hbig _ hlink) e.platform hpl
  cases Option.some.inj (hc4.symm.trans hc5)
  obtain ⟨vm', hW', hq⟩ := q_rows (e := e) (f := F0 m pc ls rest) (a := q) (s0 := s) (cell := ce) (VmData.ne_statics_of (by rw [hv]; rfl)) (by obtain ⟨k9, h9, -⟩ := Vm.findClass_spec hcl; exact ⟨k9, h9⟩) (x := x) (suf := suf) hx h0 hcl5 hasg pre ((T.setTop (F0 m pc ls rest)).pushFrame (.throwing q)) X.warmed (by rw [Stand.throwing_heap, hT]; exact hcell)
    (fun z hz => by
      rcases hpass z hz with h | ⟨hz0, nm, hl1, hn1⟩
      · exact Or.inl h
      · obtain ⟨c6, hc6, hcl6⟩ := Cond.classLink_spec hown (hbig _ hl1) e.platform hpl
        obtain ⟨a8, b8, h1, h2, h3⟩ := hnest.2 _ hn1
        cases Option.some.inj (h1.symm.trans hcl)
        cases Option.some.inj (h2.symm.trans hc6)
        exact Or.inr ⟨hz0, _, hcl6, h3⟩)
  obtain ⟨t, a1, b1⟩ := kk (T.setVm vm') hT (X.noted hW')
  refine ⟨t, q_into (g := F0 m pc ls rest) (c := c) X.here (vm' := vm') (hp := x.handlerPc) (fun Q E d acts => ?_) a1, b1⟩
  rw [W.findHandler_eq (meth := meth) (code := c) (s := (T.setTop (F0 m pc ls rest)).pushFrame (.throwing q)) (by rw [Stand.throwing_vm]; exact X.method') X.code, hsplit]
  exact hq Q E d acts
end QC
