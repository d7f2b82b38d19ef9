/-! 'throw new E()', and its catching by the caller; launches without stack traces -/
section QT
variable {p : Program} {l : Launch} {e : Env} {R : Room} {s : State} {m : MethodId} {args : Array Value} {below : List Frame} {meth : Method} {c : Code} {H : Heap} {locs : List Loc} {cells slots : Nat} {Q : State → Prop}
variable {D : va_G} {cl : List vw_C} {A : Nat → Prop} {ws : va_W} {tys : q_ty} {cc : ByteArray} {nL : Nat} {own : String} {pc : Nat} {ls : Array Slot} {rest : List Value}
/-- the walk, seen from where it stands: as if the method began here -/
theorem q_rebase {T : State} (X : Stand p l e R s m args below meth c T locs cells slots) {R' : Room} (hf : R'.frames ≤ R.frames) (hl : R'.locals ≤ R.locals) (hc : cells + R'.cells ≤ R.cells) (hs : slots + R'.slots ≤ R.slots) :
    Stand p l e R' ((T.setVm s.vm).setFrames (.invoking m args :: below)) m args below meth c T [] 0 0 := by
  have htop : (T.setVm s.vm).topJava?.isSome := X.here.top
  have hcur := State.cur_lt_of_top htop
  obtain ⟨g₀, hg⟩ := X.frames_eq
  have hF : ((T.setVm s.vm).setFrames (.invoking m args :: below)).frames = .invoking m args :: below := State.frames_setFrames _ hcur
  have hU : ((T.setVm s.vm).setFrames (.invoking m args :: below)).localsInUse = s.localsInUse := by
    rw [State.localsInUse_invoking hF (meth := meth) (c := c) X.method X.code, State.localsInUse_invoking X.frames X.method X.code]
  have hlim : e.platform.stackLimits (T.setVm s.vm).me = e.platform.stackLimits s.me := X.limits
  have hbyt : (T.setVm s.vm).me.stackBytes = s.me.stackBytes := X.bytes
  have hroom : ((T.setVm s.vm).setFrames (.invoking m args :: below)).hasRoom e.platform R' = true := by
    have h := X.room
    have h1 := X.heapSize
    have h2 := X.used
    simp only [State.hasRoom, Bool.and_eq_true, decide_eq_true_eq] at h ⊢
    rw [X.frames, List.length_cons] at h
    simp only [hF, hU, List.length_cons, State.stackLimits_setFrames, State.stackBytes_setFrames, hlim, hbyt]
    refine ⟨⟨⟨⟨by omega, by omega, by omega, by omega, by omega, h.1.1.1.2.2.2.2.2⟩, ?_⟩, ?_⟩, X.book⟩
    · have := h.1.1.2
      show T.heap.size + R'.cells ≤ e.platform.maxCells
      omega
    · have := h.1.2
      show T.slotsUsed + R'.slots ≤ e.platform.maxSlots
      omega
  obtain ⟨t, ht, -⟩ := State.frames_cons hF
  obtain ⟨t0, ht0, -⟩ := State.frames_cons (show (T.setVm s.vm).frames = .java g₀ :: below from hg)
  have hsame := (State.sameButNew.refl ((T.setVm s.vm).setFrames (.invoking m args :: below)) ht).setFrames (T.setVm s.vm).frames (State.cur_lt_of_frames hF)
  rw [State.setFrames_setFrames, State.setFrames_self ht0] at hsame
  exact ⟨X.admits, X.cas, X.clock, hF, hroom, X.hears, X.method, X.code, X.here, X.tail, X.warmed, by rw [State.stackLimits_setFrames]; rfl, by rw [State.stackBytes_setFrames]; rfl, hsame⟩
/-- what an old cell is when nothing old was written -/
theorem q_old {U : State} {k n : Nat} (h : s.sameButNew ({ U with vm := s.vm } : State) [] k n) : s.heap.size ≤ U.heap.size ∧ ∀ q : Nat, q < s.heap.size → U.heap[q]? = s.heap[q]? := by
  obtain ⟨-, h2, -, -, -, h6⟩ := h
  refine ⟨h2, fun q hq => ?_⟩
  obtain ⟨c9, e1, e2, -, e4⟩ := h6 q _ (Array.getElem?_eq_getElem hq)
  have hs : c9.slots = (s.heap[q]).slots := Array.ext_getElem? fun i => e4 i (fun hm => nomatch hm)
  rw [hs] at e2
  have e5 : U.heap[q]? = some c9 := e1
  rw [e5, Array.getElem?_eq_getElem hq]
  exact congrArg some e2
/-- a throw's word: a steady one, one of the others, or one of the four on Throwable's statics -/
def q_tw (w : Cond) : Prop := w ∈ q_big ∨ w ∈ q_nest ∨ w = .isRef (.static Bundle.tN "UNASSIGNED_STACK" Bundle.steD) ∨ w = .isRef (.static Bundle.tN "SUPPRESSED_SENTINEL" Bundle.listD) ∨ w = .laysStatic Bundle.tN "UNASSIGNED_STACK" Bundle.steD ∨ w = .laysStatic Bundle.tN "SUPPRESSED_SENTINEL" Bundle.listD
theorem q_tw_at {w : Cond} {U : State} {a' : Array Value} (h : q_tw w) (C : q_C p s m meth c args cc nL own A) (hS : va_S A s.heap H locs) (hvm : U.vm = s.vm) (hh : U.heap = H) : w.before a' U = true := by
  obtain ⟨-, -, -, -, hbig, hnest, hZ, -⟩ := C
  have hW : s.WarmedH U.vm := by rw [hvm]; exact State.WarmedH.refl s
  have hZ' : q_St A U U.heap := by rw [hh]; exact (hZ.kept hS.2.1).moved hW.alike
  rcases h with h | h | rfl | rfl | rfl | rfl
  · exact word_at hW (good_of_word (q_big_ok _ h)) (hbig _ h)
  · have hn := q_nw_warm (q_nest_ok _ h) hW (hnest.1 _ h)
    have h2 := q_nest_ok _ h
    unfold q_nw at h2
    split at h2
    · exact va_tabs rfl rfl hn
    · exact va_tabs rfl rfl hn
    · exact va_AO.use hn
    · exact va_tabs rfl rfl hn
    · exact va_tabs rfl rfl hn
    · exact q_str rfl hn
    · cases h2
  · exact hZ'.1.isRef
  · exact hZ'.2.isRef
  · exact hZ'.1.lays
  · exact hZ'.2.lays
/-- throw new E(): new; dup; invokespecial; athrow -/
theorem q_throw0 {cls : String} {names : List String} {ik ic mc ms : Nat} {w1 : va_W} {ty1 : q_ty} {post : q_O → va_W → q_ty → Prop} (hl9 : l.stackTraces = false) (C : q_C p s m meth c args cc nL own (va_A ws s.heap.size)) (hex : ∀ x ∈ c.exceptionTable.toList, False) (I : q_I D cl (va_A ws s.heap.size) s w1 ty1 H locs)
    (hcls : Bundle.fit cls = true) (hnames : ∀ n ∈ names, Bundle.fit n = true) (hk : Cond.classLink own ik cls ∈ q_big) (hini : Cond.initialized cls ∈ q_big) (hat : ∀ w ∈ Bundle.ownAtoms0 own ic cls names, q_tw w) (hls : ls.size = nL)
    (d0 : decode cc pc = .ok (.new ik, 3)) (d3 : decode cc (pc + 3) = .ok (.dup, 1)) (d4 : decode cc (pc + 4) = .ok (.invokespecial ic, 3)) (d7 : decode cc (pc + 7) = .ok (.athrow, 1))
    (hRf : names.length + 3 < R.frames) (hRl : (rest.map fun v => v.category).sum + (13 * (names.length + 1) + 42) ≤ R.locals) (hRc : cells + 1 ≤ R.cells) (hRs : slots + 6 ≤ R.slots) (hp : post (.inr cls) w1 ty1) (hX : w1 = []) (hc : cells + 1 ≤ mc) (hs : slots + 6 ≤ ms) :
    W p l e R s m args below meth c H locs cells slots (q_Z below D cl ws s.heap.size post mc ms s) (F0 m pc ls rest) := by
  intro T hT X
  have htr : e.platform.stackTraces = false := (show e.platform.stackTraces = l.stackTraces by rw [X.admits.platform]).trans hl9
  have Y := q_rebase X (R' := { frames := R.frames, locals := R.locals, cells := 1, slots := 6 }) (Nat.le_refl _) (Nat.le_refl _) hRc hRs
  obtain ⟨s', hs'⟩ : ∃ z, z = (T.setVm s.vm).setFrames (.invoking m args :: below) := ⟨_, rfl⟩
  rw [← hs'] at Y
  have hvm : s'.vm = s.vm := by rw [hs']; rfl
  have hhp : s'.heap = H := by rw [hs']; exact hT
  have hb := C.2.1
  have hown' : s'.vm.findClass own = some m.cls := by rw [hvm]; exact C.2.2.2.1
  have h : ∀ w ∈ Bundle.ownAtoms0 own ic cls names, w.before args s' = true := fun w hw => q_tw_at (hat w hw) C I.2.2.2 hvm hhp
  have hins : (Cond.instantiable cls 6).before args s' = true := h _ (by simp [Bundle.ownAtoms0])
  obtain ⟨vm₁, cX, kX, hfX, hkX, -, -, X₁, st1⟩ := Y.newCold C.1 (own := own) (C := cls) (index := ik) (n := 6) hown' (q_tw_at (Or.inl hk) C I.2.2.2 hvm hhp) hins (q_tw_at (Or.inl hini) C I.2.2.2 hvm hhp)
    (g := F0 m pc ls rest) rfl (by rw [hb]; exact d0) (Nat.le_refl _) (Nat.le_refl _)
  generalize hT1 : (T.setVm vm₁).pushCell { cls := cX, slots := kX.instanceTypes.map defaultValue, vm := .none } = T1 at X₁ st1
  have hcat : (Value.ref T.heap.size).category = 1 := rfl
  have hcellA : T1.heap[T.heap.size]? = some (freshCell cX kX) := by rw [← hT1]; exact State.heap_pushCell_size _ _
  have d3' : decode c.code (pc + 3) = .ok (.dup, 1) := by rw [hb]; exact d3
  obtain ⟨U, hsteps, hrun, hend, hW, hsame, ce, hce, hO⟩ := X₁.ctorThrow0 C.1 htr (own := own) (cls := cls) (names := names) (ic := ic) hown' hcls hnames h (fun x hx => nomatch hx) hfX hkX hcellA (by rw [hhp, hT]; exact Nat.le_refl _)
    (g := { method := m, pc := pc + 4, locals := ls, stack := .ref T.heap.size :: .ref T.heap.size :: rest, locked := none }) rfl (hls.trans C.2.2.1.symm) rfl rfl (rest := rest) rfl
    (by rw [hb]; exact d4) (by rw [hb]; exact d7) (fun x hx => (hex x hx).elim) hRf (by simp only [List.map_cons, List.sum_cons, hcat]; omega) C.2.2.2.2.2.2.2.2.1
  obtain ⟨f1, f2⟩ := q_old hsame
  rw [hhp] at f1 f2
  have hWs : s.WarmedH U.vm := by
    have h0 : s.WarmedH s'.vm := by rw [hvm]; exact State.WarmedH.refl s
    exact State.WarmedH.trans h0 hW
  have hcl : s.vm.findClass cls = some ce.cls := by
    have h9 := hO.cls
    rw [hvm] at h9
    exact h9
  have hall : s.sameButNew ({ U with vm := s.vm } : State) locs mc ms := by
    subst hs'
    obtain ⟨e1, e2⟩ := hsame
    rw [State.setFrames_setFrames] at e1
    have h3 := X.same.trans (show (T.setVm s.vm).sameButNew ({ U with vm := s.vm } : State) [] (0 + 1) (0 + 6) from ⟨e1, e2⟩)
    rw [List.append_nil] at h3
    exact h3.mono hc hs
  have hPU : va_P D cl w1 U.heap := I.1.kept (fun k q hk => f2 q.1 (I.1 k q hk).lt)
  have hFU : va_F (va_A ws s.heap.size) s U := ⟨Nat.le_trans I.2.2.2.1 f1, fun q h1 h2 => by rw [f2 q (Nat.lt_of_lt_of_le h1 I.2.2.2.1)]; exact I.2.2.2.2.1 q h1 h2⟩
  refine ⟨U, ?_, .threw T.heap.size, hrun, hend, .inr cls, w1, ty1, locs, hp, hPU, va_K.moved hWs.alike I.2.2.1, I.2.1, hFU, hWs, hall, I.2.2.2.2.2, T.heap.size, ce, rfl, hce, hO.vm, hcl, by rw [hX]; exact q_X_nil⟩
  refine st1 _ ?_
  show Steps p.tables e below (T1.setTop { method := m, pc := pc + 3, locals := ls, stack := .ref T.heap.size :: rest, locked := none }) _
  jvm_step X₁.here [X₁.here.top, C.1, d3', Value.category]
  exact hsteps
/-- a String constant that has been resolved, by ldc_w -/
theorem q_ldcw {tx : String} {index : Nat} (C : q_C p s m meth c args cc nL own A) (hw : Cond.stringRef own index tx ∈ q_nest) (d : decode cc pc = .ok (.ldc_w index, 3)) (k : ∀ a : Nat, W p l e R s m args below meth c H locs cells slots Q (F0 m (pc + 3) ls (.ref a :: rest))) :
    W p l e R s m args below meth c H locs cells slots Q (F0 m pc ls rest) := by
  intro T hT X
  obtain ⟨hexec, hb, -, hown, -, hnest, -⟩ := C
  obtain ⟨kc, cf, i, a, hk, hcf, hcp, -, hr, -⟩ := Cond.stringRef_spec hown (q_str (A' := args) rfl (hnest.1 _ hw))
  obtain ⟨k', hk', he⟩ := X.warmed.alike.2.2 _ _ hk
  have hr' : k'.resolved[index]? = some (some (.string a)) := by
    rcases X.warmed.entry hk hk' index with h | ⟨h, -⟩
    · rw [h]; exact hr
    · rw [hr] at h; cases h
  obtain ⟨t, a1, b1⟩ := k a T hT X
  refine ⟨t, ?_, b1⟩
  have hdg : decode c.code (F0 m pc ls rest).pc = .ok (.ldc_w index, 3) := by rw [hb]; exact d
  jvm_step X.here [hexec, hdg, ldc_w.wp_string (e := e) (s := T) (f := F0 m pc ls rest) X.here.top hk' (by rw [he]; exact hcf) hcp hr']
  exact a1
/-- athrow of an object that is there -/
theorem q_athrow {q : Addr} (C : q_C p s m meth c args cc nL own A) (d : decode cc pc = .ok (.athrow, 1)) (k : q_W p l e R s m args below meth c H locs cells slots Q (F0 m pc ls rest) q) :
    W p l e R s m args below meth c H locs cells slots Q (F0 m pc ls (.ref q :: rest)) := by
  intro T hT X
  obtain ⟨t, a1, b1⟩ := k T hT X
  refine ⟨t, ?_, b1⟩
  have hdg : decode c.code (F0 m pc ls (.ref q :: rest)).pc = .ok (.athrow, 1) := by rw [C.2.1]; exact d
  jvm_step X.here [C.1, hdg, athrow.wp_sem]
  exact a1
end QT
