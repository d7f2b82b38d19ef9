/-! 'new E()' of an exception that is kept: new; dup; invokespecial; its constructors up to Throwable are the library's walk -/
section QE
variable {p : Program} {l : Launch} {e : Env} {R : Room} {s : State} {m : MethodId} {args : Array Value} {below : List Frame} {meth : Method} {c : Code} {H : Heap} {locs : List Loc} {cells slots : Nat} {Q : State → Prop}
variable {D : va_G} {cl : List vw_C} {A : Nat → Prop} {ws : va_W} {tys : q_ty} {cc : ByteArray} {nL : Nat} {own : String} {pc : Nat} {ls : Array Slot} {rest : List Value}
def q_exw (cls : String) (names : List String) : List Cond := Bundle.throwableAtoms ++ Bundle.chain0Atoms cls names ++
  [.selects cls Bundle.tFill0 Bundle.tFill0, .selects cls Bundle.tFill Bundle.tFill, .lays cls Bundle.tN "cause" "Ljava/lang/Throwable;", .lays cls Bundle.tN "stackTrace" Bundle.steD, .lays cls Bundle.tN "suppressedExceptions" Bundle.listD, .lays cls Bundle.tN "backtrace" "Ljava/lang/Object;", .fieldLink Bundle.tN 198 Bundle.tN "backtrace" "Ljava/lang/Object;", .lays Bundle.tN Bundle.tN "backtrace" "Ljava/lang/Object;"]
set_option maxHeartbeats 1000000 in
theorem q_exnew {cls : String} {names : List String} {ik ci N : Nat} {F : u_T} {ig : Instr} (ty0 : Nat → FieldType) (hty : ∀ k, k < N → parseFieldDescriptor (F k).2.2.1 = some (ty0 k)) (hl9 : l.stackTraces = false) (C : q_C p s m meth c args cc nL own A) (I : q_I D cl A s ws tys H locs) (hc : cl[ci]? = some (cls, F, N)) (hin : ∀ w ∈ u_ws cls F N, w ∈ q_big)
    (hcls : Bundle.fit cls = true) (hnames : ∀ n ∈ names, Bundle.fit n = true) (hk : Cond.classLink own ik cls ∈ q_big) (hins : Cond.instantiable cls N ∈ q_big) (hini : Cond.initialized cls ∈ q_big) (hat : ∀ w ∈ q_exw cls names, q_tw w)
    (hS : ∀ (H : Heap) (locs : List Loc) (cells slots : Nat) (b : Nat), q_Site p l e R s m args below meth c H locs cells slots (Bundle.init0 cls) (Value.ref b :: []).toArray (F0 m (pc + 4) ls (.ref b :: .ref b :: rest)) (.ref b :: rest))
    (hls : ls.size = nL) (d0 : decode cc pc = .ok (.new ik, 3)) (d3 : decode cc (pc + 3) = .ok (.dup, 1)) (d4 : decode cc (pc + 4) = .ok (ig, 3))
    (hRf : names.length + 3 < R.frames) (hRl : (rest.map fun v => v.category).sum + (13 * (names.length + 1) + 42) ≤ R.locals) (hRc : cells + 1 ≤ R.cells) (hRs : slots + N ≤ R.slots)
    (kk : ∀ (q : Nat) (fs : List Value) (H1 : Heap) (locs1 : List Loc), fs.length = N → (∀ k, k < N → (F k).2.1 ≠ "cause" → (F k).2.1 ≠ "stackTrace" → (F k).2.1 ≠ "suppressedExceptions" → fs[k]? = some (defaultValue (ty0 k))) → q_I D cl A s (ws ++ [(q, .inr (ci, fs))]) tys H1 locs1 → W p l e R s m args below meth c H1 locs1 (cells + 1) (slots + N) Q (F0 m (pc + 7) ls (.ref q :: rest))) :
    W p l e R s m args below meth c H locs cells slots Q (F0 m pc ls rest) := by
  intro T hT X
  obtain ⟨hx, hb, hml, hown, hbig, hnest, hZ, hA, hlocks, -⟩ := id C
  obtain ⟨hP, hD, hK, hSv⟩ := id I
  have h : ∀ w ∈ q_exw cls names, w.before args s = true := fun w hw => q_tw_at (hat w hw) C va_S.rf rfl rfl
  have a' : ∀ w, w ∈ q_exw cls names → w.holds args s none s [] = true := fun w hw => h w hw
  have htr : e.platform.stackTraces = false := (show e.platform.stackTraces = l.stackTraces by rw [X.admits.platform]).trans hl9
  have howns : e.platform.frameOwnsMonitors = true := by rw [X.admits.platform]
  have hfin : e.platform.finalization = false := by rw [X.admits.platform]
  have hpl : e.platform.magicAccessors = ({} : Platform).magicAccessors := by rw [X.admits.platform]
  obtain ⟨vm₁, cX, kX, hfX, hkX, hord, -, X₁, st1⟩ := X.newCold hx (own := own) (C := cls) (index := ik) (n := N) hown (hbig _ hk) (hbig _ hins) (hbig _ hini) (g := F0 m pc ls rest) rfl (by rw [hb]; exact d0) hRc hRs
  obtain ⟨TT, Z, L, LZ, Y⟩ := ThrowableC.of_atoms (args := args) howns hfin hpl (fun x hx => h x (by simp [q_exw, hx]))
  obtain ⟨P1, Ps, hlen, L1, hL, hP1m, hlink1, hlink⟩ := Bundle.chain0 (args := args) hpl Y.init0 names cls hcls hnames (fun x hx => h x (by simp [q_exw, hx]))
  have hfound : s.vm.findClass cls = some P1.m.cls := findClass_of_methodNamed hP1m
  cases Option.some.inj (hfX.symm.trans hfound)
  have hTH : T.heap.size = H.size := by rw [hT]
  generalize hT1 : (T.setVm vm₁).pushCell { cls := P1.m.cls, slots := kX.instanceTypes.map defaultValue, vm := .none } = T1 at X₁ st1
  have hH1 : T1.heap = H.push (freshCell P1.m.cls kX) := by rw [← hT1, ← hT]; rfl
  have hcellA : T1.heap[T.heap.size]? = some (freshCell P1.m.cls kX) := by rw [← hT1]; exact State.heap_pushCell_size _ _
  have hsel0 : selectMethod e.platform s.vm P1.m.cls TT.fill0 = .method TT.fill0 := by
    obtain ⟨c2, r2, m2, q1, q2, q3, q4, -⟩ := Cond.selects_spec (a' (.selects cls Bundle.tFill0 Bundle.tFill0) (by simp [q_exw]))
    cases Option.some.inj (q1.symm.trans hfound)
    cases Option.some.inj (q2.symm.trans (State.methodFound?_of_named Y.fill0 (by decide)))
    cases Option.some.inj (q3.symm.trans Y.fill0)
    rw [Launch.admits_selectMethod X.admits]; exact q4
  have hselF : selectMethod e.platform s.vm P1.m.cls TT.fill = .method TT.fill := by
    obtain ⟨c2, r2, m2, q1, q2, q3, q4, -⟩ := Cond.selects_spec (a' (.selects cls Bundle.tFill Bundle.tFill) (by simp [q_exw]))
    cases Option.some.inj (q1.symm.trans hfound)
    cases Option.some.inj (q2.symm.trans (State.methodFound?_of_named Y.fill (by decide)))
    cases Option.some.inj (q3.symm.trans Y.fill)
    rw [Launch.admits_selectMethod X.admits]; exact q4
  obtain ⟨⟨c1, k1, i1, f1, a1, cellS, v1, -, g2, -, g4, g5, g6, -, -, -, g10, g11, g12⟩, ⟨c2, k2, i2, f2, a2, cellS2, v2, -, e2, -, e4, e5, -, -, -, -, e10, e11, -⟩⟩ := hZ.kept hSv.2.1
  cases Option.some.inj (g2.symm.trans Y.unassigned)
  cases Option.some.inj (e2.symm.trans Y.sentinel)
  cases Option.some.inj (g4.symm.trans L.statics)
  cases Option.some.inj (e4.symm.trans L.statics)
  cases Option.some.inj (g5.symm.trans e5)
  have hltS : TT.aS < H.size := (Array.getElem?_eq_some_iff.mp g5).1
  have hcellS : T1.heap[TT.aS]? = some cellS := by rw [hH1, Array.getElem?_push_lt hltS]; exact (Array.getElem?_eq_some_iff.mp g5).2 ▸ rfl
  have hknownS : cellS.vm ≠ .unknown := fun hu => by rw [hu] at g6; cases g6
  obtain ⟨ci198, i198, fB, hk198, hg198, ha198, hsB, -, hnB, htB, hffB⟩ := Cond.ownField (t := .object "java/lang/Object") Y.found L.cls (by decide +kernel) (a' (.fieldLink Bundle.tN 198 Bundle.tN "backtrace" "Ljava/lang/Object;") (by simp [q_exw])) (a' (.lays Bundle.tN Bundle.tN "backtrace" "Ljava/lang/Object;") (by simp [q_exw])) e.platform hpl
  obtain ⟨tyC, dC, hdC, hdnC⟩ := Cond.laysAt hfound hkX Y.cause (a' (.lays cls Bundle.tN "cause" "Ljava/lang/Throwable;") (by simp [q_exw]))
  obtain ⟨tyS, dS, hdS, hdnS⟩ := Cond.laysAt hfound hkX Y.stack (a' (.lays cls Bundle.tN "stackTrace" Bundle.steD) (by simp [q_exw]))
  obtain ⟨tyP, dP, hdP, hdnP⟩ := Cond.laysAt hfound hkX Y.supp (a' (.lays cls Bundle.tN "suppressedExceptions" Bundle.listD) (by simp [q_exw]))
  obtain ⟨tyB, dB, hdB, hdnB⟩ := Cond.laysAt hfound hkX hffB (a' (.lays cls Bundle.tN "backtrace" "Ljava/lang/Object;") (by simp [q_exw]))
  have bC := Cond.laysApart hdB hdC hdnB hdnC (by rw [hnB, Y.causeName]; decide)
  have bS := Cond.laysApart hdB hdS hdnB hdnS (by rw [hnB, Y.stackName]; decide)
  have bP := Cond.laysApart hdB hdP hdnB hdnP (by rw [hnB, Y.suppName]; decide)
  obtain ⟨u0, hu0⟩ : ∃ u : RefV, u.v = v1 := ⟨⟨v1, g11⟩, rfl⟩
  obtain ⟨sen, hsen⟩ : ∃ u : RefV, u.v = v2 := ⟨⟨v2, e11⟩, rfl⟩
  obtain ⟨vm₂, mk, X₂, hnamed, hstep⟩ := hS T1.heap locs (cells + 1) (slots + N) T.heap.size T1 rfl X₁
  cases Option.some.inj (hnamed.symm.trans hP1m)
  have hskip : SkipFacts TT e.platform s (fun u => u) u0 ((preparedCellV TT.toThrowableT (freshCell P1.m.cls kX) T.heap.size u0 sen).withEntry (T1.setVm vm₂).cur) :=
    ⟨{ ci198 := ci198, i198 := i198, fBack := fB }, ⟨hk198, hg198, ha198, hsB⟩, by
      have := fresh_default (c := P1.m.cls) tyB
      rw [htB] at this
      simpa [preparedCellV, Cell.setSlot, Cell.withEntry, Array.getElem?_setIfInBounds, bC, bS, bP, bC.symm, bS.symm, bP.symm, defaultValue] using this, fun _ _ => rfl⟩
  have hcat : (Value.ref T.heap.size).category = 1 := rfl
  have hmr : (F0 m (pc + 4) ls (.ref T.heap.size :: rest)).monitorRoom = 0 := rfl
  obtain ⟨vm₃, X₃, st3⟩ := X₂.ctorPlainOffV hx (g := F0 m (pc + 4) ls (.ref T.heap.size :: rest)) rfl (hls.trans hml.symm) TT L Z LZ (P1 :: Ps)
    (fun P hP => by rcases List.mem_cons.mp hP with rfl | hP; exact L1; exact hL P hP) ⟨hlink1, hlink⟩ (u0 := u0) (sen := sen) (self := T.heap.size) (cell := freshCell P1.m.cls kX) (cellS := cellS)
    hcellA (fun _ => by simp) (by simp) rfl rfl hsel0 hselF hcellS (Nat.ne_of_lt (by rw [hTH]; exact hltS)) hknownS (by rw [hu0]; exact g10) (by rw [hsen]; exact e10)
    (Takes.of_laid hkX hord tyC (by rw [Y.causeType]; rfl)) (Takes.of_laid hkX hord tyS (by rw [Y.stackType]; exact fits_refV_array _ u0)) (Takes.of_laid hkX hord tyP (by rw [Y.suppType]; exact fits_refV_object _ sen)) Y.objLocals hskip htr [] (by rw [hb]; exact d4)
    (by simp only [List.length_cons, hlen]; omega) (by simp only [List.length_cons, hlen, hmr, List.map_cons, List.sum_cons, hcat]; omega)
  generalize hcell' : (preparedCellV TT.toThrowableT (freshCell P1.m.cls kX) T.heap.size u0 sen).setSlot TT.fStack.slot u0.v = cell' at X₃ st3
  have hcs : cell'.cls = P1.m.cls := by rw [← hcell']; rfl
  have hcv : cell'.vm = .none := by rw [← hcell']; rfl
  have hsl : ∀ i : Nat, i ≠ TT.fCause.slot → i ≠ TT.fStack.slot → i ≠ TT.fSupp.slot → cell'.slots[i]? = (freshCell P1.m.cls kX).slots[i]? := fun i n1 n2 n3 => by
    rw [← hcell']
    simp [preparedCellV, Cell.setSlot, Array.getElem?_setIfInBounds, n1.symm, n2.symm, n3.symm]
  have hss : cell'.slots.size = (freshCell P1.m.cls kX).slots.size := by rw [← hcell']; simp [preparedCellV, Cell.setSlot]
  have hKn := hK.1 ci (cls, F, N) hc
  have hDc : D.1 ci = P1.m.cls := Option.some.inj (hKn.2.1.symm.trans hfound)
  have hb9 : ∀ k, k < N → ∃ v, cell'.slots[D.2 ci k]? = some v ∧ ((F k).2.1 ≠ "cause" → (F k).2.1 ≠ "stackTrace" → (F k).2.1 ≠ "suppressedExceptions" → v = defaultValue (ty0 k)) := by
    intro k hk
    obtain ⟨cf, kf, fi, fd, hi, hsd⟩ := hKn.1 k hk
    have hsd : fd.slot = D.2 ci k := hsd
    have hlay := u_lays hbig hin hk
    have hty9 := (u_facts hfound hkX hlay hi).2.2
    obtain ⟨hn9, ht9⟩ := State.fieldFound?_type hi (hty k hk)
    have hlt : fd.slot < cell'.slots.size := by
      rw [hss]
      have := (Array.getElem?_eq_some_iff.mp (fresh_default (c := P1.m.cls) hty9)).1
      exact this
    rw [← hsd]
    refine ⟨cell'.slots[fd.slot], Array.getElem?_eq_getElem hlt, fun n1 n2 n3 => ?_⟩
    have q1 : fd.slot ≠ TT.fCause.slot := u_apart hlay (Or.inl (h (.lays cls Bundle.tN "cause" "Ljava/lang/Throwable;") (by simp [q_exw]))) hi Y.cause (by rw [hn9, Y.causeName]; exact n1)
    have q2 : fd.slot ≠ TT.fStack.slot := u_apart hlay (Or.inl (h (.lays cls Bundle.tN "stackTrace" Bundle.steD) (by simp [q_exw]))) hi Y.stack (by rw [hn9, Y.stackName]; exact n2)
    have q3 : fd.slot ≠ TT.fSupp.slot := u_apart hlay (Or.inl (h (.lays cls Bundle.tN "suppressedExceptions" Bundle.listD) (by simp [q_exw]))) hi Y.supp (by rw [hn9, Y.suppName]; exact n3)
    have q4 := hsl fd.slot q1 q2 q3
    rw [fresh_default (c := P1.m.cls) hty9, Array.getElem?_eq_getElem hlt, ht9] at q4
    exact Option.some.inj q4
  obtain ⟨fs, hfs⟩ : ∃ fs : List Value, fs = (List.range N).map (fun k => (cell'.slots[D.2 ci k]?).getD .null) := ⟨_, rfl⟩
  have hfsl : fs.length = N := by rw [hfs]; simp
  have hfsk : ∀ k, k < N → fs[k]? = cell'.slots[D.2 ci k]? := fun k hk => by
    obtain ⟨v, hv, -⟩ := hb9 k hk
    rw [hfs, hv]
    simp [hk, hv]
  obtain ⟨H2, hH2⟩ : ∃ z, z = (((T1.setVm vm₂).setVm vm₃).setCell T.heap.size cell').heap := ⟨_, rfl⟩
  have hH2' : H2 = (H.push (freshCell P1.m.cls kX)).setIfInBounds H.size cell' := by rw [hH2, ← hH1, ← hTH]; rfl
  have z1 : H2.size = H.size + 1 := by rw [hH2']; simp
  have z2 : H2[H.size]? = some cell' := by rw [hH2']; simp [Array.getElem?_setIfInBounds]
  have z3 : ∀ q : Nat, q < H.size → H2[q]? = H[q]? := fun q hq => by
    rw [hH2', Array.getElem?_setIfInBounds, if_neg (by omega), Array.getElem?_push_lt hq, Array.getElem?_eq_getElem hq]
  have hP2 : va_P D cl (ws ++ [(H.size, .inr (ci, fs))]) H2 := va_P.app (hP.kept (fun k q hk => z3 q.1 (hP k q hk).lt)) (fun k q hq => by
    cases k with
    | zero =>
      cases hq
      refine ⟨(cls, F, N), hc, cell', z2, hcs.trans hDc.symm, hcv, fun k hk => ?_⟩
      obtain ⟨v, hv, -⟩ := hb9 k hk
      have h9 := hfsk k hk
      rw [hv] at h9
      show cell'.slots[D.2 ci k]? = some (fs.getD k .null)
      rw [hv, List.getD_eq_getElem?_getD, h9]
      rfl
    | succ k => cases hq)
  have hI2 : q_I D cl A s (ws ++ [(H.size, .inr (ci, fs))]) tys H2 (locs ++ [⟨T.heap.size, TT.fCause.slot⟩, ⟨T.heap.size, TT.fStack.slot⟩, ⟨T.heap.size, TT.fSupp.slot⟩, ⟨T.heap.size, TT.fStack.slot⟩]) :=
    ⟨hP2, hD.push hP rfl (hA _ hSv.1), hK, by rw [z1]; exact Nat.le_succ_of_le hSv.1, fun q h1 h2 => by rw [z3 q (Nat.lt_of_lt_of_le h1 hSv.1)]; exact hSv.2.1 q h1 h2, fun q hq => by
      rcases List.mem_append.mp hq with h1 | h1
      · exact hSv.2.2 q h1
      · have hb2 : q.base = T.heap.size := by
          simp only [List.mem_cons, List.not_mem_nil, or_false] at h1
          rcases h1 with rfl | rfl | rfl | rfl <;> rfl
        rw [hb2, hTH]
        exact hA _ hSv.1⟩
  obtain ⟨t, b1, b2⟩ := kk H.size fs H2 _ hfsl (fun k hk n1 n2 n3 => by
    obtain ⟨v, hv, hd⟩ := hb9 k hk
    rw [hfsk k hk, hv, hd n1 n2 n3]) hI2 (((T1.setVm vm₂).setVm vm₃).setCell T.heap.size cell') hH2.symm X₃
  refine ⟨t, st1 _ ?_, b2⟩
  have d3' : decode c.code (pc + 3) = .ok (.dup, 1) := by rw [hb]; exact d3
  show Steps p.tables e below (T1.setTop { method := m, pc := pc + 3, locals := ls, stack := .ref T.heap.size :: rest, locked := none }) _
  jvm_step X₁.here [X₁.here.top, hx, d3', Value.category]
  refine hstep _ (fun acts => ?_)
  rw [doInvoke_state]
  refine st3 _ ?_
  rw [← hTH] at b1
  exact b1
end QE
