/-! the kit's rows in this proof's form: q_C holds all along, q_I is the world -/
section QR
variable {p : Program} {l : Launch} {e : Env} {R : Room} {s : State} {m : MethodId} {args : Array Value} {below : List Frame} {meth : Method} {c : Code} {H : Heap} {locs : List Loc} {cells slots : Nat} {Q : State → Prop}
variable {D : va_G} {cl : List vw_C} {A : Nat → Prop} {ws : va_W} {tys : q_ty} {cc : ByteArray} {nL : Nat} {own : String} {pc : Nat} {ls : Array Slot} {rest : List Value}
variable {Cn host : String} {T0 : u_T} {N0 ci index a : Nat} {fs : List Value} {v : Value}
theorem q_get (C : q_C p s m meth c args cc nL own A) (I : q_I D cl A s ws tys H locs) (q0 k : Nat) (he : ws[q0]? = some (a, .inr (ci, fs))) (hc : cl[ci]? = some (Cn, T0, N0)) (hin : ∀ w ∈ u_ws Cn T0 N0, w ∈ q_big) (hk : k < N0)
    (hl : Cond.fieldLink own index (T0 k).1 (T0 k).2.1 (T0 k).2.2.1 ∈ q_big) (hv : fs[k]? = some v) (hdg : decode cc pc = .ok (.getfield index, 3)) (kk : W p l e R s m args below meth c H locs cells slots Q (F0 m (pc + 3) ls (v :: rest))) :
    W p l e R s m args below meth c H locs cells slots Q (F0 m pc ls (.ref a :: rest)) :=
  va_get C.1 C.2.1 C.2.2.2.2.1 hin C.2.2.2.1 I.2.2.1 I.1 q0 he hc k hk (C.2.2.2.2.1 _ hl) (fun _ h => h) hv hdg kk
theorem q_getN (C : q_C p s m meth c args cc nL own A) (I : q_I D cl A s ws tys H locs) (q0 k : Nat) (he : ws[q0]? = some (a, .inr (ci, fs))) (hc : cl[ci]? = some (Cn, T0, N0)) (hin : ∀ w ∈ u_ws Cn T0 N0, w ∈ q_big) (hk : k < N0)
    (hl : Cond.fieldLinkNest own index (T0 k).1 (T0 k).2.1 (T0 k).2.2.1 host ∈ q_nest) (hv : fs[k]? = some v) (hdg : decode cc pc = .ok (.getfield index, 3)) (kk : W p l e R s m args below meth c H locs cells slots Q (F0 m (pc + 3) ls (v :: rest))) :
    W p l e R s m args below meth c H locs cells slots Q (F0 m pc ls (.ref a :: rest)) :=
  va_getN C.1 C.2.1 C.2.2.2.2.1 hin C.2.2.2.1 I.2.2.1 I.1 q0 he hc k hk (va_Nw.use rfl (C.2.2.2.2.2.1.1 _ hl)) (fun _ h => h) hv hdg kk
theorem q_put (ty0 : Nat → FieldType) (hty : ∀ k, k < N0 → parseFieldDescriptor (T0 k).2.2.1 = some (ty0 k)) (hnm : ∀ a, a < N0 → ∀ b, b < N0 → a ≠ b → (T0 a).2.1 ≠ (T0 b).2.1) (C : q_C p s m meth c args cc nL own A) (I : q_I D cl A s ws tys H locs) (q0 k : Nat) (he : ws[q0]? = some (a, .inr (ci, fs))) (hc : cl[ci]? = some (Cn, T0, N0)) (hin : ∀ w ∈ u_ws Cn T0 N0, w ∈ q_big) (hk : k < N0)
    (hl : Cond.fieldLink own index (T0 k).1 (T0 k).2.1 (T0 k).2.2.1 ∈ q_big) (hfin : (T0 k).2.2.2 = false) (hn : narrow (ty0 k) v = v) (hfit : fits (ty0 k) v = true) (hlen : k < fs.length) (hdg : decode cc pc = .ok (.putfield index, 3))
    (kk : ∀ (H1 : Heap) (locs1 : List Loc), q_I D cl A s (ws.set q0 (a, .inr (ci, fs.set k v))) tys H1 locs1 → W p l e R s m args below meth c H1 locs1 cells slots Q (F0 m (pc + 3) ls rest)) :
    W p l e R s m args below meth c H locs cells slots Q (F0 m pc ls (v :: .ref a :: rest)) :=
  va_put C.1 C.2.1 C.2.2.2.2.1 hin ty0 hty hnm C.2.2.2.1 I.2.2.1 I.1 I.2.1 I.2.2.2 q0 he hc k hk (C.2.2.2.2.1 _ hl) (fun _ h => h) hfin (hty k hk) hn hfit hlen hdg (fun H1 locs1 hP hD hS => kk H1 locs1 ⟨hP, hD, I.2.2.1, hS⟩)
theorem q_putF (ty0 : Nat → FieldType) (hty : ∀ k, k < N0 → parseFieldDescriptor (T0 k).2.2.1 = some (ty0 k)) (hnm : ∀ a, a < N0 → ∀ b, b < N0 → a ≠ b → (T0 a).2.1 ≠ (T0 b).2.1) (C : q_C p s m meth c args cc nL own A) (hin2 : meth.name = "<init>") (I : q_I D cl A s ws tys H locs) (q0 k : Nat) (he : ws[q0]? = some (a, .inr (ci, fs))) (hc : cl[ci]? = some (Cn, T0, N0)) (hin : ∀ w ∈ u_ws Cn T0 N0, w ∈ q_big) (hk : k < N0)
    (hl : Cond.fieldLink own index (T0 k).1 (T0 k).2.1 (T0 k).2.2.1 ∈ q_big) (hfin : (T0 k).2.2.2 = true) (hdecl : (T0 k).1 = own) (hn : narrow (ty0 k) v = v) (hfit : fits (ty0 k) v = true) (hlen : k < fs.length) (hdg : decode cc pc = .ok (.putfield index, 3))
    (kk : ∀ (H1 : Heap) (locs1 : List Loc), q_I D cl A s (ws.set q0 (a, .inr (ci, fs.set k v))) tys H1 locs1 → W p l e R s m args below meth c H1 locs1 cells slots Q (F0 m (pc + 3) ls rest)) :
    W p l e R s m args below meth c H locs cells slots Q (F0 m pc ls (v :: .ref a :: rest)) :=
  va_putF C.1 C.2.1 C.2.2.2.2.1 hin ty0 hty hnm C.2.2.2.1 I.2.2.1 I.1 I.2.1 I.2.2.2 q0 he hc k hk (C.2.2.2.2.1 _ hl) (fun _ h => h) hfin hin2 hdecl (hty k hk) hn hfit hlen hdg (fun H1 locs1 hP hD hS => kk H1 locs1 ⟨hP, hD, I.2.2.1, hS⟩)
theorem q_front {w1 w2 : va_W} {t1 t2 : q_ty} (I : q_I D cl A s (w1 ++ w2) (t1 ++ t2) H locs) : q_I D cl A s w1 t1 H locs := by
  obtain ⟨hP, hD, hK, hS⟩ := I
  have at1 : ∀ {k : Nat} {q : Nat × va_E}, w1[k]? = some q → (w1 ++ w2)[k]? = some q := fun {k q} h => by
    rw [List.getElem?_append_left (List.getElem?_eq_some_iff.mp h).1]; exact h
  refine ⟨fun k q h => hP k q (at1 h), ⟨fun i j x y hx hy => hD.1 i j x y (at1 hx) (at1 hy), fun k q h => hD.2 k q (at1 h)⟩, ⟨hK.1, fun k q h => hK.2 k q ?_⟩, hS⟩
  rw [List.getElem?_append_left (List.getElem?_eq_some_iff.mp h).1]; exact h
theorem q_newa {atype : ArrayType} {ty : FieldType} {n : Int32} {N' : Nat} (a0 : vp_A) (C : q_C p s m meth c args cc nL own A) (I : q_I D cl A s ws tys H locs) (hty : newarray.typeOf atype = ty) (harr : Cond.arrayClass (newarray.typeOf atype) ∈ q_big) (ha : ∀ cA : ClassId, vp_cell cA a0 = arrV cA N' (fun _ => defaultValue ty))
    (hn : ¬ n < 0) (hN : n.toNatClampNeg = N') (hbytes : N' * componentBytes ty ≤ 536870912) (hcells : cells + 1 ≤ R.cells) (hslots : slots + N' ≤ R.slots) (hdg : decode cc pc = .ok (.newarray atype, 2))
    (kk : ∀ (q : Nat) (cA : ClassId) (H1 : Heap), q_I D cl A s (ws ++ [(q, .inl (cA, a0))]) (tys ++ [(cA, ty)]) H1 locs → W p l e R s m args below meth c H1 locs (cells + 1) (slots + N') Q (F0 m (pc + 2) ls (.ref q :: rest))) :
    W p l e R s m args below meth c H locs cells slots Q (F0 m pc ls (.int n :: rest)) :=
  va_newa C.1 C.2.1 (C.2.2.2.2.1 _ harr) hty I.2.2.1 I.1 I.2.1 I.2.2.2 C.2.2.2.2.2.2.2.1 ha hn hN hbytes hcells hslots hdg (fun q cA H1 hK hP hD hS => kk q cA H1 ⟨hP, hD, hK, hS⟩)
/-- new T[n] into a final field; the array itself is not looked at again -/
theorem q_arrF {atype : ArrayType} {ty : FieldType} {n : Int32} {N' : Nat} (a0 : vp_A) (ty0 : Nat → FieldType) (hty : ∀ k, k < N0 → parseFieldDescriptor (T0 k).2.2.1 = some (ty0 k)) (hnm : ∀ a, a < N0 → ∀ b, b < N0 → a ≠ b → (T0 a).2.1 ≠ (T0 b).2.1) (C : q_C p s m meth c args cc nL own A) (hin2 : meth.name = "<init>") (I : q_I D cl A s ws tys H locs) (q0 k : Nat) (he : ws[q0]? = some (a, .inr (ci, fs))) (hc : cl[ci]? = some (Cn, T0, N0)) (hin : ∀ w ∈ u_ws Cn T0 N0, w ∈ q_big) (hk : k < N0)
    (hl : Cond.fieldLink own index (T0 k).1 (T0 k).2.1 (T0 k).2.2.1 ∈ q_big) (hfin : (T0 k).2.2.2 = true) (hdecl : (T0 k).1 = own) (hta : ty0 k = .array ty) (hlen : k < fs.length)
    (hta2 : newarray.typeOf atype = ty) (harr : Cond.arrayClass (newarray.typeOf atype) ∈ q_big) (ha : ∀ cA : ClassId, vp_cell cA a0 = arrV cA N' (fun _ => defaultValue ty)) (hn : ¬ n < 0) (hN : n.toNatClampNeg = N') (hbytes : N' * componentBytes ty ≤ 536870912) (hcells : cells + 1 ≤ R.cells) (hslots : slots + N' ≤ R.slots)
    (d1 : decode cc pc = .ok (.newarray atype, 2)) (d2 : decode cc (pc + 2) = .ok (.putfield index, 3))
    (kk : ∀ (q : Nat) (H1 : Heap) (locs1 : List Loc), q_I D cl A s (ws.set q0 (a, .inr (ci, fs.set k (.ref q)))) tys H1 locs1 → W p l e R s m args below meth c H1 locs1 (cells + 1) (slots + N') Q (F0 m (pc + 5) ls rest)) :
    W p l e R s m args below meth c H locs cells slots Q (F0 m pc ls (.int n :: .ref a :: rest)) := by
  have hq : q0 < ws.length := (List.getElem?_eq_some_iff.mp he).1
  refine q_newa a0 C I hta2 harr ha hn hN hbytes hcells hslots d1 (fun q cA H1 I => ?_)
  refine q_putF ty0 hty hnm C hin2 I q0 k (by rw [List.getElem?_append_left hq]; exact he) hc hin hk hl hfin hdecl (by rw [hta]; rfl) (by rw [hta]; rfl) hlen d2 (fun H1 locs1 I => ?_)
  refine kk q H1 locs1 ?_
  rw [List.set_append_left _ _ hq] at I
  exact q_front I
theorem q_pick {ws' : va_W} {tys' : q_ty} (I : q_I D cl A s ws tys H locs) (is ts : List Nat) (hs : is.map (fun i => ws[i]?) = ws'.map some) (hn : va_nd is = true) (ht : ts.filterMap (fun i => tys[i]?) = tys') : q_I D cl A s ws' tys' H locs :=
  ⟨q_subm I.1 is hs, I.2.1.sub is hn hs, I.2.2.1.sub ts ht, I.2.2.2⟩
theorem q_obj {idx : Nat} (C : q_C p s m meth c args cc nL own A) (hl : Cond.methodLink own idx Lib.objectInit ∈ q_big) (hi : Cond.instanceMethod Lib.objectInit ∈ q_big) (hc : Cond.code Lib.objectInit ⟨#[0xb1]⟩ 1 none ∈ q_big) (hls : ls.size = nL) (d : decode cc pc = .ok (.invokespecial idx, 3)) (hf : 1 ≤ R.frames) (hlo : (rest.map fun v => v.category).sum + 12 ≤ R.locals)
    (kk : W p l e R s m args below meth c H locs cells slots Q (F0 m (pc + 3) ls rest)) : W p l e R s m args below meth c H locs cells slots Q (F0 m pc ls (.ref a :: rest)) :=
  W.objInit C.1 C.2.1 C.2.2.2.1 (C.2.2.2.2.1 _ hl) (C.2.2.2.2.1 _ hi) (C.2.2.2.2.1 _ hc) rfl (hls.trans C.2.2.1.symm) rfl d hf (by rw [show (F0 m pc ls (.ref a :: rest)).monitorRoom = 0 from rfl]; omega) kk
theorem q_new (ty0 : Nat → FieldType) (hty : ∀ k, k < N0 → parseFieldDescriptor (T0 k).2.2.1 = some (ty0 k)) (C : q_C p s m meth c args cc nL own A) (I : q_I D cl A s ws tys H locs) (hc : cl[ci]? = some (Cn, T0, N0)) (hin : ∀ w ∈ u_ws Cn T0 N0, w ∈ q_big) (hcl : Cond.classLink own index Cn ∈ q_big) (hinst : Cond.instantiable Cn N0 ∈ q_big) (hini : Cond.initialized Cn ∈ q_big) (hfs : ∀ j, j < N0 → defaultValue (ty0 j) = vp_V fs j)
    (hcells : cells + 1 ≤ R.cells) (hslots : slots + N0 ≤ R.slots) (hdg : decode cc pc = .ok (.new index, 3))
    (kk : ∀ (q : Nat) (H1 : Heap), q_I D cl A s (ws ++ [(q, .inr (ci, fs))]) tys H1 locs → W p l e R s m args below meth c H1 locs (cells + 1) (slots + N0) Q (F0 m (pc + 3) ls (.ref q :: rest))) :
    W p l e R s m args below meth c H locs cells slots Q (F0 m pc ls rest) :=
  va_new C.1 C.2.1 C.2.2.2.2.1 hin ty0 hty C.2.2.2.1 (C.2.2.2.2.1 _ hcl) (C.2.2.2.2.1 _ hinst) (C.2.2.2.2.1 _ hini) I.2.2.1 I.1 I.2.1 I.2.2.2 C.2.2.2.2.2.2.2.1 hc hfs hcells hslots hdg (fun q H1 hP hD hS => kk q H1 ⟨hP, hD, I.2.2.1, hS⟩)
theorem q_newq {n : Int32} {N' : Nat} (C : q_C p s m meth c args cc nL own A) (I : q_I D cl A s ws tys H locs) (hcl : Cond.classLink own index Cn ∈ q_big) (hov : Cond.arrayOver (.object Cn) ∈ q_nest) (hn : ¬ n < 0) (hN : n.toNatClampNeg = N') (hbytes : N' * 4 ≤ 536870912) (hcells : cells + 1 ≤ R.cells) (hslots : slots + N' ≤ R.slots) (hdg : decode cc pc = .ok (.anewarray index, 3))
    (kk : ∀ (q : Nat) (cA : ClassId) (H1 : Heap), q_I D cl A s (ws ++ [(q, .inl (cA, N', .inr (.inr (.inr (.inr (fun _ => none))))))]) (tys ++ [(cA, .object Cn)]) H1 locs → W p l e R s m args below meth c H1 locs (cells + 1) (slots + N') Q (F0 m (pc + 3) ls (.ref q :: rest))) :
    W p l e R s m args below meth c H locs cells slots Q (F0 m pc ls (.int n :: rest)) :=
  va_newq C.1 C.2.1 C.2.2.2.1 (C.2.2.2.2.1 _ hcl) (C.2.2.2.2.2.1.1 _ hov) I.2.2.1 I.1 I.2.1 I.2.2.2 C.2.2.2.2.2.2.2.1 hn hN hbytes hcells hslots hdg (fun q cA H1 hK hP hD hS => kk q cA H1 ⟨hP, hD, hK, hS⟩)
theorem q_arrN {atype : ArrayType} {ty : FieldType} {n : Int32} {N' : Nat} (a0 : vp_A) (ty0 : Nat → FieldType) (hty : ∀ k, k < N0 → parseFieldDescriptor (T0 k).2.2.1 = some (ty0 k)) (hnm : ∀ a, a < N0 → ∀ b, b < N0 → a ≠ b → (T0 a).2.1 ≠ (T0 b).2.1) (C : q_C p s m meth c args cc nL own A) (I : q_I D cl A s ws tys H locs) (q0 k : Nat) (he : ws[q0]? = some (a, .inr (ci, fs))) (hc : cl[ci]? = some (Cn, T0, N0)) (hin : ∀ w ∈ u_ws Cn T0 N0, w ∈ q_big) (hk : k < N0)
    (hl : Cond.fieldLink own index (T0 k).1 (T0 k).2.1 (T0 k).2.2.1 ∈ q_big) (hfin : (T0 k).2.2.2 = false) (hta : ty0 k = .array ty) (hlen : k < fs.length)
    (hta2 : newarray.typeOf atype = ty) (harr : Cond.arrayClass (newarray.typeOf atype) ∈ q_big) (ha : ∀ cA : ClassId, vp_cell cA a0 = arrV cA N' (fun _ => defaultValue ty)) (hn : ¬ n < 0) (hN : n.toNatClampNeg = N') (hbytes : N' * componentBytes ty ≤ 536870912) (hcells : cells + 1 ≤ R.cells) (hslots : slots + N' ≤ R.slots)
    (d1 : decode cc pc = .ok (.newarray atype, 2)) (d2 : decode cc (pc + 2) = .ok (.putfield index, 3))
    (kk : ∀ (q : Nat) (H1 : Heap) (locs1 : List Loc), q_I D cl A s (ws.set q0 (a, .inr (ci, fs.set k (.ref q)))) tys H1 locs1 → W p l e R s m args below meth c H1 locs1 (cells + 1) (slots + N') Q (F0 m (pc + 5) ls rest)) :
    W p l e R s m args below meth c H locs cells slots Q (F0 m pc ls (.int n :: .ref a :: rest)) := by
  have hq : q0 < ws.length := (List.getElem?_eq_some_iff.mp he).1
  refine q_newa a0 C I hta2 harr ha hn hN hbytes hcells hslots d1 (fun q cA H1 I => ?_)
  refine q_put ty0 hty hnm C I q0 k (by rw [List.getElem?_append_left hq]; exact he) hc hin hk hl hfin (by rw [hta]; rfl) (by rw [hta]; rfl) hlen d2 (fun H1 locs1 I => ?_)
  refine kk q H1 locs1 ?_
  rw [List.set_append_left _ _ hq] at I
  exact q_front I
theorem q_astq {cA : ClassId} {r : vw_C} {n v0 : Nat} {vs : List Value} {f : Nat → Option Nat} {i : Int32} (C : q_C p s m meth c args cc nL own A) (I : q_I D cl A s ws tys H locs) (q0 t0 qk ci : Nat) (ha : ws[q0]? = some (a, .inl (cA, n, .inr (.inr (.inr (.inr f)))))) (ht : tys[t0]? = some (cA, .object r.1)) (hv : ws[qk]? = some (v0, .inr (ci, vs))) (hc : cl[ci]? = some r) (hin : vp_in i n) (hdg : decode cc pc = .ok (.aastore, 1))
    (kk : ∀ (H1 : Heap) (locs1 : List Loc), q_I D cl A s (ws.set q0 (a, .inl (cA, n, .inr (.inr (.inr (.inr (va_up f i.toNatClampNeg (some v0)))))))) tys H1 locs1 → W p l e R s m args below meth c H1 locs1 cells slots Q (F0 m (pc + 1) ls rest)) :
    W p l e R s m args below meth c H locs cells slots Q (F0 m pc ls (.ref v0 :: .int i :: .ref a :: rest)) :=
  va_astq C.1 C.2.1 I.2.2.1 I.1 I.2.1 I.2.2.2 q0 t0 qk ci ha ht hv hc hin hdg (fun H1 locs1 hP hD hS => kk H1 locs1 ⟨hP, hD, I.2.2.1, hS⟩)
theorem q_iast {cA : ClassId} {n : Nat} {f : Nat → Int32} {i x : Int32} (C : q_C p s m meth c args cc nL own A) (I : q_I D cl A s ws tys H locs) (q0 t0 : Nat) (ha : ws[q0]? = some (a, .inl (cA, n, .inl f))) (ht : tys[t0]? = some (cA, .int)) (hin : vp_in i n) (hdg : decode cc pc = .ok (.iastore, 1))
    (kk : ∀ (H1 : Heap) (locs1 : List Loc), q_I D cl A s (ws.set q0 (a, .inl (cA, n, .inl (upd f i.toNatClampNeg x)))) tys H1 locs1 → W p l e R s m args below meth c H1 locs1 cells slots Q (F0 m (pc + 1) ls rest)) :
    W p l e R s m args below meth c H locs cells slots Q (F0 m pc ls (.int x :: .int i :: .ref a :: rest)) :=
  va_iast C.1 C.2.1 I.2.2.1 I.1 I.2.1 I.2.2.2 q0 t0 ha ht hin hdg (fun H1 locs1 hP hD hS => kk H1 locs1 ⟨hP, hD, I.2.2.1, hS⟩)
theorem q_bast {cA : ClassId} {n : Nat} {f : Nat → Int32} {i x : Int32} (C : q_C p s m meth c args cc nL own A) (I : q_I D cl A s ws tys H locs) (q0 t0 : Nat) (ha : ws[q0]? = some (a, .inl (cA, n, .inl f))) (ht : tys[t0]? = some (cA, .byte)) (hin : vp_in i n) (hdg : decode cc pc = .ok (.bastore, 1))
    (kk : ∀ (H1 : Heap) (locs1 : List Loc), q_I D cl A s (ws.set q0 (a, .inl (cA, n, .inl (upd f i.toNatClampNeg (vp_nar .byte x))))) tys H1 locs1 → W p l e R s m args below meth c H1 locs1 cells slots Q (F0 m (pc + 1) ls rest)) :
    W p l e R s m args below meth c H locs cells slots Q (F0 m pc ls (.int x :: .int i :: .ref a :: rest)) :=
  va_bast C.1 C.2.1 I.2.2.1 I.1 I.2.1 I.2.2.2 q0 t0 ha ht hin hdg (fun H1 locs1 hP hD hS => kk H1 locs1 ⟨hP, hD, I.2.2.1, hS⟩)
/-- .. the new content isn't looked at -/
theorem q_bastX {cA : ClassId} {n : Nat} {f : Nat → Int32} {i x : Int32} (C : q_C p s m meth c args cc nL own A) (I : q_I D cl A s ws tys H locs) (q0 t0 : Nat) (ha : ws[q0]? = some (a, .inl (cA, n, .inl f))) (ht : tys[t0]? = some (cA, .byte)) (hin : vp_in i n) (hdg : decode cc pc = .ok (.bastore, 1))
    (kk : ∀ (g : Nat → Int32) (H1 : Heap) (locs1 : List Loc), q_I D cl A s (ws.set q0 (a, .inl (cA, n, .inl g))) tys H1 locs1 → W p l e R s m args below meth c H1 locs1 cells slots Q (F0 m (pc + 1) ls rest)) :
    W p l e R s m args below meth c H locs cells slots Q (F0 m pc ls (.int x :: .int i :: .ref a :: rest)) :=
  q_bast C I q0 t0 ha ht hin hdg (fun H1 locs1 I => kk _ H1 locs1 I)
theorem q_iastX {cA : ClassId} {n : Nat} {f : Nat → Int32} {i x : Int32} (C : q_C p s m meth c args cc nL own A) (I : q_I D cl A s ws tys H locs) (q0 t0 : Nat) (ha : ws[q0]? = some (a, .inl (cA, n, .inl f))) (ht : tys[t0]? = some (cA, .int)) (hin : vp_in i n) (hdg : decode cc pc = .ok (.iastore, 1))
    (kk : ∀ (g : Nat → Int32) (H1 : Heap) (locs1 : List Loc), q_I D cl A s (ws.set q0 (a, .inl (cA, n, .inl g))) tys H1 locs1 → W p l e R s m args below meth c H1 locs1 cells slots Q (F0 m (pc + 1) ls rest)) :
    W p l e R s m args below meth c H locs cells slots Q (F0 m pc ls (.int x :: .int i :: .ref a :: rest)) :=
  q_iast C I q0 t0 ha ht hin hdg (fun H1 locs1 I => kk _ H1 locs1 I)
theorem q_last {cA : ClassId} {n : Nat} {f : Nat → Int64} {i : Int32} {x : Int64} (C : q_C p s m meth c args cc nL own A) (I : q_I D cl A s ws tys H locs) (q0 t0 : Nat) (ha : ws[q0]? = some (a, .inl (cA, n, .inr (.inl f)))) (ht : tys[t0]? = some (cA, .long)) (hin : vp_in i n) (hdg : decode cc pc = .ok (.lastore, 1))
    (kk : ∀ (H1 : Heap) (locs1 : List Loc), q_I D cl A s (ws.set q0 (a, .inl (cA, n, .inr (.inl (vp_updL f i.toNatClampNeg x))))) tys H1 locs1 → W p l e R s m args below meth c H1 locs1 cells slots Q (F0 m (pc + 1) ls rest)) :
    W p l e R s m args below meth c H locs cells slots Q (F0 m pc ls (.long x :: .int i :: .ref a :: rest)) :=
  va_last C.1 C.2.1 I.2.2.1 I.1 I.2.1 I.2.2.2 q0 t0 ha ht hin hdg (fun H1 locs1 hP hD hS => kk H1 locs1 ⟨hP, hD, I.2.2.1, hS⟩)
theorem q_iald {cA : ClassId} {n : Nat} {f : Nat → Int32} {i : Int32} (C : q_C p s m meth c args cc nL own A) (I : q_I D cl A s ws tys H locs) (q0 t0 : Nat) (ha : ws[q0]? = some (a, .inl (cA, n, .inl f))) (ht : tys[t0]? = some (cA, .int)) (hin : vp_in i n) (hdg : decode cc pc = .ok (.iaload, 1))
    (kk : W p l e R s m args below meth c H locs cells slots Q (F0 m (pc + 1) ls (.int (f i.toNatClampNeg) :: rest))) : W p l e R s m args below meth c H locs cells slots Q (F0 m pc ls (.int i :: .ref a :: rest)) :=
  va_iald C.1 C.2.1 I.2.2.1 I.1 q0 t0 ha ht hin hdg kk
theorem q_lald {cA : ClassId} {n : Nat} {f : Nat → Int64} {i : Int32} (C : q_C p s m meth c args cc nL own A) (I : q_I D cl A s ws tys H locs) (q0 t0 : Nat) (ha : ws[q0]? = some (a, .inl (cA, n, .inr (.inl f)))) (ht : tys[t0]? = some (cA, .long)) (hin : vp_in i n) (hdg : decode cc pc = .ok (.laload, 1))
    (kk : W p l e R s m args below meth c H locs cells slots Q (F0 m (pc + 1) ls (.long (f i.toNatClampNeg) :: rest))) : W p l e R s m args below meth c H locs cells slots Q (F0 m pc ls (.int i :: .ref a :: rest)) :=
  va_lald C.1 C.2.1 I.2.2.1 I.1 q0 t0 ha ht hin hdg kk
end QR
