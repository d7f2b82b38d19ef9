/-! Throwable's two statics, which every 'new' of an exception reads: where they lie, that they hold a reference or null; no method here writes them -/
theorem q_str {own tx : String} {k : Nat} {A A' : Array Value} {u U : State} (hv : U.vm = u.vm) (h : (Cond.stringRef own k tx).before A u = true) : (Cond.stringRef own k tx).before A' U = true := by
  simp only [Cond.before, Cond.holds, Cond.value, State.names, State.poolOf?, State.resolvedAt?, hv] at h ⊢
  exact h
theorem q_nw_warm {w : Cond} (h : q_nw w = true) {s U : State} (hW : s.WarmedH U.vm) (hZ : va_Nw w s) : va_Nw w U := by
  unfold q_nw at h
  split at h
  · exact va_Nw.warmF hW hZ
  · exact va_Nw.warmM hW hZ
  · exact va_AO.moved hW.alike hZ
  · exact va_tabs rfl (rfl : (s.setVm U.vm).vm = U.vm) (Cond.before_shiftedFace (State.Shifted.of_warmed hW) _ rfl hZ)
  · exact va_tabs rfl (rfl : (s.setVm U.vm).vm = U.vm) (Cond.before_shiftedFace (State.Shifted.of_warmed hW) _ rfl hZ)
  · exact q_str (u := s.setVm U.vm) rfl (Cond.stringRef_warmed (args := #[]) hW hZ)
  · cases h
/-- pairs of exceptions, the first no subclass of the second -/
def q_ncs : List (String × String) := [("java/lang/IllegalStateException", "java/lang/IllegalArgumentException"), ("java/util/NoSuchElementException", "java/lang/IllegalArgumentException")]
/-- what of the tables is carried beside the steady words -/
def q_N (U : State) : Prop := (∀ w ∈ q_nest, va_Nw w U) ∧ ∀ z ∈ q_ncs, va_Nc z.1 z.2 U
theorem q_N.warm {s U : State} (hW : s.WarmedH U.vm) (h : q_N s) : q_N U := ⟨fun w hw => q_nw_warm (q_nest_ok w hw) hW (h.1 w hw), fun z hz => (h.2 z hz).moved hW.alike⟩
def q_L (n d : String) (A : Nat → Prop) (U : State) (H : Heap) : Prop :=
  ∃ (c : ClassId) (k : Class) (i : Nat) (f : Field) (a : Nat) (cell : Cell) (v : Value), U.vm.findClass Bundle.tN = some c ∧ U.fieldFound? Bundle.tN n d = some (c, k, i, f) ∧ f.isStatic = true ∧ k.statics = some a ∧ H[a]? = some cell ∧ cell.vm.isStatics = true ∧ cell.cls = c ∧ f.slot < cell.slots.size ∧ k.staticTypes[f.slot]? = some f.type ∧ cell.slots[f.slot]? = some v ∧ v.isRef = true ∧ ¬ A a
theorem q_L.moved {n d : String} {A : Nat → Prop} {u U : State} {H : Heap} (hvm : u.vm.Alike U.vm) (h : q_L n d A u H) : q_L n d A U H := by
  obtain ⟨c, k, i, f, a, cell, v, h1, h2, h3, h4, h5, h6, h7, h8, h9, h10, h11, h12⟩ := h
  obtain ⟨k', hi', he⟩ := State.fieldFound?_setVm hvm h2
  exact ⟨c, k', i, f, a, cell, v, by rw [hvm.findClass]; exact h1, hi', h3, by rw [he]; exact h4, h5, h6, h7, h8, by rw [he]; exact h9, h10, h11, h12⟩
theorem q_L.kept {n d : String} {A : Nat → Prop} {U : State} {H H1 : Heap} (h : q_L n d A U H) (hq : ∀ a : Nat, a < H.size → ¬ A a → H1[a]? = H[a]?) : q_L n d A U H1 := by
  obtain ⟨c, k, i, f, a, cell, v, h1, h2, h3, h4, h5, h6, h7, h8, h9, h10, h11, h12⟩ := h
  exact ⟨c, k, i, f, a, cell, v, h1, h2, h3, h4, by rw [hq a (Array.getElem?_eq_some_iff.mp h5).1 h12]; exact h5, h6, h7, h8, h9, h10, h11, h12⟩
theorem q_L.narrow {n d : String} {A B : Nat → Prop} {U : State} {H : Heap} (h : q_L n d A U H) (hAB : ∀ q, B q → A q) : q_L n d B U H := by
  obtain ⟨c, k, i, f, a, cell, v, h1, h2, h3, h4, h5, h6, h7, h8, h9, h10, h11, h12⟩ := h
  exact ⟨c, k, i, f, a, cell, v, h1, h2, h3, h4, h5, h6, h7, h8, h9, h10, h11, fun z => h12 (hAB _ z)⟩
theorem q_L.lays {n d : String} {A : Nat → Prop} {s : State} {args : Array Value} (h : q_L n d A s s.heap) : (Cond.laysStatic Bundle.tN n d).before args s = true := by
  obtain ⟨c, k, i, f, a, cell, v, h1, h2, h3, h4, h5, h6, h7, h8, h9, -⟩ := h
  show (Cond.laysStatic Bundle.tN n d).holds args s none s [] = true
  exact Cond.laysStatic_of h1 h2 h3 h4 h5 h6 h7 h8 h9
theorem q_L.isRef {n d : String} {A : Nat → Prop} {s : State} {args : Array Value} (h : q_L n d A s s.heap) : (Cond.isRef (.static Bundle.tN n d)).before args s = true := by
  obtain ⟨c, k, i, f, a, cell, v, h1, h2, h3, h4, h5, h6, h7, h8, h9, h10, h11, -⟩ := h
  have he : (Term.static Bundle.tN n d).eval args s none [] s = some v := by
    simp [Term.eval, State.fieldNamed?, h2, h3, h4, h5, h6, h10]
  simp only [Cond.before, Cond.holds, Cond.value, he]
  cases v <;> simp_all [Value.isRef]
theorem q_L.of {n d : String} {A : Nat → Prop} {s : State} {args : Array Value} (hl : (Cond.laysStatic Bundle.tN n d).before args s = true) (hr : (Cond.isRef (.static Bundle.tN n d)).before args s = true) (hA : ∀ a : Nat, a < s.heap.size → ¬ A a) : q_L n d A s s.heap := by
  obtain ⟨c, k, i, f, a, cell, h1, h2, h3, h4, h5, h6, h7, h8, h9⟩ := Cond.laysStatic_spec hl
  obtain ⟨u, hu⟩ := Cond.staticRefV h2 h3 h4 h5 h6 hr
  exact ⟨c, k, i, f, a, cell, u.v, h1, h2, h3, h4, h5, h6, h7, h8, h9, hu, u.2, hA a (Array.getElem?_eq_some_iff.mp h5).1⟩
def q_St (A : Nat → Prop) (U : State) (H : Heap) : Prop := q_L "UNASSIGNED_STACK" Bundle.steD A U H ∧ q_L "SUPPRESSED_SENTINEL" Bundle.listD A U H
theorem q_St.moved {A : Nat → Prop} {u U : State} {H : Heap} (hvm : u.vm.Alike U.vm) (h : q_St A u H) : q_St A U H := ⟨h.1.moved hvm, h.2.moved hvm⟩
theorem q_St.kept {A : Nat → Prop} {U : State} {H H1 : Heap} (h : q_St A U H) (hq : ∀ a : Nat, a < H.size → ¬ A a → H1[a]? = H[a]?) : q_St A U H1 := ⟨h.1.kept hq, h.2.kept hq⟩
theorem q_St.narrow {A B : Nat → Prop} {U : State} {H : Heap} (h : q_St A U H) (hAB : ∀ q, B q → A q) : q_St B U H := ⟨h.1.narrow hAB, h.2.narrow hAB⟩
/-- no cell of a world is a cell of statics -/
theorem q_plain {D : va_G} {cl : List vw_C} {ws : va_W} {H : Heap} (h : va_P D cl ws H) : ∀ (q : Nat) (cell : Cell), va_A ws H.size q → H[q]? = some cell → cell.vm.isStatics = false := by
  intro q cell hq hc
  rcases hq with ⟨k, e, hk⟩ | hq
  · have h1 := h k (q, e) hk
    cases e with
    | inl a =>
      have h2 : H[q]? = some (vp_cell a.1 a.2) := h1
      rw [hc] at h2
      obtain rfl := Option.some.inj h2
      obtain ⟨cA, n, f⟩ := a
      rcases f with f | f | f | f | f <;> rfl
    | inr o =>
      obtain ⟨r, -, cell', h2, -, h3, -⟩ := h1
      have h2 : H[q]? = some cell' := h2
      rw [hc] at h2
      obtain rfl := Option.some.inj h2
      rw [h3]; rfl
  · have := (Array.getElem?_eq_some_iff.mp hc).1
    omega
