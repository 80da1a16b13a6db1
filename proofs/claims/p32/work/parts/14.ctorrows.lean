/-! the constructors: the world is a list of cells -/
def zAOA (t : FieldType) (U : State) : Prop := (Cond.arrayOver (.array t)).before #[] U = true
theorem zAOA.use {t : FieldType} {A : Array Value} {U : State} (h : zAOA t U) : (Cond.arrayOver (.array t)).before A U = true := h
theorem z_idx_bare (vm : Vm) (comp : ClassId) : (vm.bare.classes.findIdx? fun (x : Class) => match x.kind with | .array component _ => component == comp | _ => false) = (vm.classes.findIdx? fun (x : Class) => match x.kind with | .array component _ => component == comp | _ => false) := by
  simp only [Vm.bare, Array.findIdx?_map]
  rfl
theorem zAOA.moved {t : FieldType} {u U : State} (hvm : u.vm.Alike U.vm) (h : zAOA t u) : zAOA t U := by
  obtain ⟨comp, c, k, h1, h2, h3, h4, h5⟩ := arrayOverA_spec h
  obtain ⟨k', hk', he⟩ := hvm.2.2 _ _ h3
  have hi : (U.vm.classes.findIdx? fun (x : Class) => match x.kind with | .array component _ => component == comp | _ => false) = some c := by
    rw [← z_idx_bare]
    first | rw [hvm.bare_eq] | rw [← hvm.bare_eq]
    rw [z_idx_bare]
    exact h2
  have hkind : k'.kind = .array comp (.array t) := by rw [he]; exact h4
  have f1 : U.vm.findClass (FieldType.array t).toString = some comp := by rw [hvm.findClass]; exact h1
  have f2 : U.vm.findClass ("[" ++ (FieldType.array t).toString) = some c := by rw [hvm.findClass]; exact h5
  unfold zAOA Cond.before Cond.holds
  simp only [Cond.value]
  rw [f1, Option.bind_some]
  refine (congrArg (fun o : Option Nat => (o.bind (fun c => (U.vm.classes[c]?).map fun (k : Class) => match k.kind with | .array _ ty => decide (ty = FieldType.array t) && decide (U.vm.findClass ("[" ++ (FieldType.array t).toString) = some c) | _ => false) == some true)) hi).trans ?_
  simp [hk', hkind, f2]
/-- what the constructors need of the tables beside the good words -/
def zCb (U : State) : Prop := va_Nw (.methodLinkNest RX5 11 yX4_init RX5) U ∧ va_Nw (.methodLinkNest RX5 45 yX0_init RX5) U ∧ va_Nw (.methodLinkNest RX5 69 yX2_init RX5) U ∧ va_Nw (.methodLinkNest RX2 11 yX4_init RX5) U ∧ va_Nw (.methodLinkNest RX5 70 yX1_init RX5) U ∧ va_AO "SnippetBank$Licence" U ∧ va_AO "SnippetBank$Piece" U ∧ va_AO "SnippetBank$Project" U ∧ zAOA .int U
theorem zCb.warm {s U : State} (hW : s.WarmedH U.vm) (h : zCb s) : zCb U := ⟨va_Nw.warmM hW h.1, va_Nw.warmM hW h.2.1, va_Nw.warmM hW h.2.2.1, va_Nw.warmM hW h.2.2.2.1, va_Nw.warmM hW h.2.2.2.2.1, va_AO.moved hW.alike h.2.2.2.2.2.1, va_AO.moved hW.alike h.2.2.2.2.2.2.1, va_AO.moved hW.alike h.2.2.2.2.2.2.2.1, zAOA.moved hW.alike h.2.2.2.2.2.2.2.2⟩
def zXPre (D : va_G) (cy : Nat → ClassId) (ws : va_W) (sz : Nat) (U : State) : Prop := U.heap.size = sz ∧ va_P D vwCl ws U.heap ∧ va_K D vwCl (zTys cy) U ∧ va_D (fun _ => True) ws ∧ zCb U
theorem zXPre.blind {D : va_G} {cy : Nat → ClassId} {ws : va_W} {sz : Nat} {avs : List Value} : FrameBlind (va_Pc avs (zXPre D cy ws sz)) := fun a U g mk q => by
  obtain ⟨q0, q1, qP, qK, qD, qC⟩ := q
  exact ⟨q0, q1, qP, va_K.moved (u := U) (U := U.calling g mk a) (Vm.Alike.refl U.vm) qK, qD, qC⟩
/-- a constructor: n cells of ms slots are new, at u 0, u 1 ..; the world is w1 u then -/
def ZMk (l : Launch) (y : MethodName) (b : ByteArray) (nL : Nat) (rm : Room) (n ms : Nat) (D : va_G) (cy : Nat → ClassId) (avs : List Value) (ws : va_W) (w1 : (Nat → Nat) → va_W) : Prop := ∀ sz : Nat, Met l y (.code y b nL none :: zW) rm (va_Pc avs (zXPre D cy ws sz)) (va_Qv (fun _ : Nat → Nat => True) (fun u t => va_P D vwCl (w1 u) t.heap ∧ va_D (va_A ws sz) (w1 u)) (va_A ws sz)) n ms (va_A ws sz)
abbrev zci (cy : Nat → ClassId) (n : Nat) (q : Nat) : Nat × va_E := (q, .inl (cy 6, n, .inl (fun _ => 0)))
abbrev zcf (cy : Nat → ClassId) (n : Nat) (q : Nat) (f : Nat → Int32) : Nat × va_E := (q, .inl (cy 6, n, .inl f))
abbrev zcq (cy : Nat → ClassId) (k n : Nat) (q : Nat) (f : Nat → Option Nat) : Nat × va_E := (q, .inl (cy k, n, .inr (.inr (.inr (.inr f)))))
abbrev zco (c : Nat) (q : Nat) (fs : List Value) : Nat × va_E := (q, .inr (c, fs))
theorem z_cls {D : va_G} {cl : List vw_C} {tys : List (ClassId × FieldType)} {s : State} {cA c2 : ClassId} {ty : FieldType} (hK1 : va_K D cl (tys ++ [(cA, ty)]) s) (k : Nat) (hk : tys[k]? = some (c2, ty)) : cA = c2 := by
  have h1 := (hK1.2 tys.length (cA, ty) (by rw [List.getElem?_append_right (Nat.le_refl _), Nat.sub_self]; rfl)).2
  have h2 := (hK1.2 k (c2, ty) (by rw [List.getElem?_append_left (List.getElem?_eq_some_iff.mp hk).1]; exact hk)).2
  cases ty with
  | object C =>
    obtain ⟨-, -, -, -, -, e1⟩ := h1
    obtain ⟨-, -, -, -, -, e2⟩ := h2
    rw [e1] at e2
    exact Option.some.inj e2
  | _ =>
    have e2 := h2.symm.trans h1
    exact (Option.some.inj e2).symm
section ZKX
variable {p : Program} {l : Launch} {e : Env} {R : Room} {s : State} {m : MethodId} {args : Array Value} {below : List Frame} {meth : Method} {c : Code} {cells slots : Nat} {Q : State → Prop}
variable {cc : ByteArray} {own : String} {nL : Nat} {D : va_G} {cy : Nat → ClassId} {A : Nat → Prop}
variable {ws w1 : va_W} {pc : Nat} {lv lv' : List (Nat × Value)} {st : List Value}
def ZX (p : Program) (l : Launch) (e : Env) (R : Room) (s : State) (m : MethodId) (args : Array Value) (below : List Frame) (meth : Method) (c : Code) (nL : Nat) (D : va_G) (A : Nat → Prop) (cells slots : Nat) (Q : State → Prop) (ws : va_W) (pc : Nat) (lv : List (Nat × Value)) (st : List Value) : Prop :=
  ∀ (H : Heap) (locs : List Loc) (ls : Array Slot), va_P D vwCl ws H → va_D A ws → va_S A s.heap H locs → lv_has ls nL lv → W p l e R s m args below meth c H locs cells slots Q (F0 m pc ls st)
def ZY (p : Program) (s : State) (m : MethodId) (args : Array Value) (meth : Method) (c : Code) (cc : ByteArray) (own : String) (nL : Nat) (D : va_G) (cy : Nat → ClassId) (A : Nat → Prop) : Prop :=
  p.tables.exec = Jvm.exec ∧ c.code = cc ∧ c.maxLocals = nL ∧ (∀ w ∈ zW, w.before args s = true) ∧ s.vm.findClass own = some m.cls ∧ meth.locks = false ∧ va_K D vwCl (zTys cy) s ∧ (∀ q : Nat, s.heap.size ≤ q → A q) ∧ zCb s
theorem ZY.x (C : ZY p s m args meth c cc own nL D cy A) : p.tables.exec = Jvm.exec := C.1
theorem ZY.b (C : ZY p s m args meth c cc own nL D cy A) : c.code = cc := C.2.1
theorem ZY.ml (C : ZY p s m args meth c cc own nL D cy A) : c.maxLocals = nL := C.2.2.1
theorem ZY.w (C : ZY p s m args meth c cc own nL D cy A) : ∀ w ∈ zW, w.before args s = true := C.2.2.2.1
theorem ZY.o (C : ZY p s m args meth c cc own nL D cy A) : s.vm.findClass own = some m.cls := C.2.2.2.2.1
theorem ZY.lk (C : ZY p s m args meth c cc own nL D cy A) : meth.locks = false := C.2.2.2.2.2.1
theorem ZY.k (C : ZY p s m args meth c cc own nL D cy A) : va_K D vwCl (zTys cy) s := C.2.2.2.2.2.2.1
theorem ZY.a (C : ZY p s m args meth c cc own nL D cy A) : ∀ q : Nat, s.heap.size ≤ q → A q := C.2.2.2.2.2.2.2.1
theorem ZY.cb (C : ZY p s m args meth c cc own nL D cy A) : zCb s := C.2.2.2.2.2.2.2.2
theorem zx_iconst (C : ZY p s m args meth c cc own nL D cy A) {n : Int} {v : Int32} (hv : Int32.ofInt n = v) (hd : decode cc pc = .ok (.iconst n, 1)) (kk : ZX p l e R s m args below meth c nL D A cells slots Q ws (pc + 1) lv (.int v :: st)) : ZX p l e R s m args below meth c nL D A cells slots Q ws pc lv st := by
  intro H locs ls hP hD hS hl
  exact lv_iconst C.x C.b hd hv (kk H locs ls hP hD hS hl)
theorem zx_bipush (C : ZY p s m args meth c cc own nL D cy A) {n : Int} {v : Int32} (hv : (Int8.ofInt n).toInt32 = v) (hd : decode cc pc = .ok (.bipush n, 2)) (kk : ZX p l e R s m args below meth c nL D A cells slots Q ws (pc + 2) lv (.int v :: st)) : ZX p l e R s m args below meth c nL D A cells slots Q ws pc lv st := by
  intro H locs ls hP hD hS hl
  exact lv_bipush C.x C.b hd hv (kk H locs ls hP hD hS hl)
theorem zx_iload_n (C : ZY p s m args meth c cc own nL D cy A) {j : Fin 4} {i : Nat} {x : Int32} (k : Nat) (hi : (j : Nat) = i) (hk : lv[k]? = some (i, .int x)) (hd : decode cc pc = .ok (.iload_n j, 1)) (kk : ZX p l e R s m args below meth c nL D A cells slots Q ws (pc + 1) lv (.int x :: st)) : ZX p l e R s m args below meth c nL D A cells slots Q ws pc lv st := by
  intro H locs ls hP hD hS hl
  exact lv_iload_n C.x C.b hd hi (lv_at hl k hk) (kk H locs ls hP hD hS hl)
theorem zx_istore_n (C : ZY p s m args meth c cc own nL D cy A) {j : Fin 4} {i : Nat} {x : Int32} (hi : (j : Nat) = i) (hn : i < nL) (hl' : (i, Value.int x) :: lv.filter (fun q => !(q.1 == i) && !(q.1 + 1 == i && q.2.category == 2)) = lv') (hd : decode cc pc = .ok (.istore_n j, 1)) (kk : ZX p l e R s m args below meth c nL D A cells slots Q ws (pc + 1) lv' st) : ZX p l e R s m args below meth c nL D A cells slots Q ws pc lv (.int x :: st) := by
  intro H locs ls hP hD hS hl
  exact lv_istore_n C.x C.b hd hi hl hn hl' (fun ls2 hl2 => kk H locs ls2 hP hD hS hl2)
theorem zx_aload_n (C : ZY p s m args meth c cc own nL D cy A) {j : Fin 4} {i : Nat} {x : Nat} (k : Nat) (hi : (j : Nat) = i) (hk : lv[k]? = some (i, .ref x)) (hd : decode cc pc = .ok (.aload_n j, 1)) (kk : ZX p l e R s m args below meth c nL D A cells slots Q ws (pc + 1) lv (.ref x :: st)) : ZX p l e R s m args below meth c nL D A cells slots Q ws pc lv st := by
  intro H locs ls hP hD hS hl
  exact lv_aload_n C.x C.b hd hi (lv_at hl k hk) (kk H locs ls hP hD hS hl)
theorem zx_astore_n (C : ZY p s m args meth c cc own nL D cy A) {j : Fin 4} {i : Nat} {x : Nat} (hi : (j : Nat) = i) (hn : i < nL) (hl' : (i, Value.ref x) :: lv.filter (fun q => !(q.1 == i) && !(q.1 + 1 == i && q.2.category == 2)) = lv') (hd : decode cc pc = .ok (.astore_n j, 1)) (kk : ZX p l e R s m args below meth c nL D A cells slots Q ws (pc + 1) lv' st) : ZX p l e R s m args below meth c nL D A cells slots Q ws pc lv (.ref x :: st) := by
  intro H locs ls hP hD hS hl
  exact lv_astore_n C.x C.b hd hi hl hn hl' (fun ls2 hl2 => kk H locs ls2 hP hD hS hl2)
theorem zx_iinc (C : ZY p s m args meth c cc own nL D cy A) {i : Nat} {n : Int} {x v : Int32} (k : Nat) (hk : lv[k]? = some (i, .int x)) (hv : x + Int32.ofInt n = v) (hn : i < nL) (hl' : (i, Value.int v) :: lv.filter (fun q => !(q.1 == i) && !(q.1 + 1 == i && q.2.category == 2)) = lv') (hd : decode cc pc = .ok (.iinc i n, 3)) (kk : ZX p l e R s m args below meth c nL D A cells slots Q ws (pc + 3) lv' st) : ZX p l e R s m args below meth c nL D A cells slots Q ws pc lv st := by
  intro H locs ls hP hD hS hl
  exact lv_iinc C.x C.b hd hl hk hv hn hl' (fun ls2 hl2 => kk H locs ls2 hP hD hS hl2)
theorem zx_dup (C : ZY p s m args meth c cc own nL D cy A) {va : Value} (hva : va.category = 1) (hd : decode cc pc = .ok (.dup, 1)) (kk : ZX p l e R s m args below meth c nL D A cells slots Q ws (pc + 1) lv (va :: va :: st)) : ZX p l e R s m args below meth c nL D A cells slots Q ws pc lv (va :: st) := by
  intro H locs ls hP hD hS hl
  exact lv_dup C.x C.b hd hva (kk H locs ls hP hD hS hl)
theorem zx_icmp_ge (C : ZY p s m args meth c cc own nL D cy A) {x y : Int32} {off : Int} {tgt : Nat} (ht : (pc : Int) + off = (tgt : Int)) (hd : decode cc pc = .ok (.if_icmp .ge off, 3)) (kt : y ≤ x → ZX p l e R s m args below meth c nL D A cells slots Q ws tgt lv st) (kf : ¬ y ≤ x → ZX p l e R s m args below meth c nL D A cells slots Q ws (pc + 3) lv st) : ZX p l e R s m args below meth c nL D A cells slots Q ws pc lv (.int y :: .int x :: st) := by
  intro H locs ls hP hD hS hl
  exact lv_icmp_ge C.x C.b hd ht (fun h => kt h H locs ls hP hD hS hl) (fun h => kf h H locs ls hP hD hS hl)
theorem zx_goto (C : ZY p s m args meth c cc own nL D cy A) {off : Int} {tgt : Nat} (ht : (pc : Int) + off = (tgt : Int)) (hd : decode cc pc = .ok (.goto off, 3)) (kk : ZX p l e R s m args below meth c nL D A cells slots Q ws tgt lv st) : ZX p l e R s m args below meth c nL D A cells slots Q ws pc lv st := by
  intro H locs ls hP hD hS hl
  exact lv_goto C.x C.b hd ht (kk H locs ls hP hD hS hl)
theorem zx_ws (C : ZY p s m args meth c cc own nL D cy A) (h : ws = w1) (kk : ZX p l e R s m args below meth c nL D A cells slots Q w1 pc lv st) : ZX p l e R s m args below meth c nL D A cells slots Q ws pc lv st := by
  subst h
  exact kk
theorem zx_lv (C : ZY p s m args meth c cc own nL D cy A) (ks : List Nat) (hl' : lv_pick lv ks = lv') (kk : ZX p l e R s m args below meth c nL D A cells slots Q ws pc lv' st) : ZX p l e R s m args below meth c nL D A cells slots Q ws pc lv st := by
  intro H locs ls hP hD hS hl
  exact kk H locs ls hP hD hS (lv_sub hl ks hl')
theorem zx_widen (C : ZY p s m args meth c cc own nL D cy A) {k n : Nat} (h1 : cells ≤ k) (h2 : slots ≤ n) (kk : ZX p l e R s m args below meth c nL D A k n Q ws pc lv st) : ZX p l e R s m args below meth c nL D A cells slots Q ws pc lv st := by
  intro H locs ls hP hD hS hl
  exact W.widen h1 h2 (kk H locs ls hP hD hS hl)
theorem zx_obj (C : ZY p s m args meth c cc own nL D cy A) {idx a : Nat} (w1 : Cond.methodLink own idx objectInit ∈ zW) (w2 : Cond.instanceMethod objectInit ∈ zW) (w3 : Cond.code objectInit ⟨#[0xb1]⟩ 1 none ∈ zW) (hf : 1 ≤ R.frames) (hlo : (st.map fun v => v.category).sum + 12 ≤ R.locals) (hd : decode cc pc = .ok (.invokespecial idx, 3)) (kk : ZX p l e R s m args below meth c nL D A cells slots Q ws (pc + 3) lv st) : ZX p l e R s m args below meth c nL D A cells slots Q ws pc lv (.ref a :: st) := by
  intro H locs ls hP hD hS hl
  exact W.objInit C.x C.b C.o (C.w _ w1) (C.w _ w2) (C.w _ w3) rfl (by rw [C.ml]; exact hl.1) rfl hd hf (by show 2 * 0 + _ + 12 ≤ _; omega) (kk H locs ls hP hD hS hl)
theorem zx_get (C : ZY p s m args meth c cc own nL D cy A) {cn : String} {T : u_T} {Nf ci k q0 : Nat} {a : Nat} {fs : List Value} {v : Value} {idx : Nat} (hc : vwCl[ci]? = some (cn, T, Nf)) (hin : ∀ w ∈ u_ws cn T Nf, w ∈ zW) (hkN : k < Nf) (hlk : Cond.fieldLink own idx (T k).1 (T k).2.1 (T k).2.2.1 ∈ zW) (he : ws[q0]? = some (a, .inr (ci, fs))) (hv : fs[k]? = some v) (hd : decode cc pc = .ok (.getfield idx, 3)) (kk : ZX p l e R s m args below meth c nL D A cells slots Q ws (pc + 3) lv (v :: st)) : ZX p l e R s m args below meth c nL D A cells slots Q ws pc lv (.ref a :: st) := by
  intro H locs ls hP hD hS hl
  exact va_get C.x C.b C.w hin C.o C.k hP q0 he hc k hkN (C.w _ hlk) (fun _ h => h) hv hd (kk H locs ls hP hD hS hl)
theorem zx_put (C : ZY p s m args meth c cc own nL D cy A) {cn : String} {T : u_T} {Nf ci k q0 : Nat} {a : Nat} {fs : List Value} {v : Value} {idx : Nat} {ty : FieldType} (ty0 : Nat → FieldType) (hc : vwCl[ci]? = some (cn, T, Nf)) (hin : ∀ w ∈ u_ws cn T Nf, w ∈ zW) (hty : ∀ k, k < Nf → parseFieldDescriptor (T k).2.2.1 = some (ty0 k)) (hnm : ∀ a, a < Nf → ∀ b, b < Nf → a ≠ b → (T a).2.1 ≠ (T b).2.1) (hkN : k < Nf) (hlk : Cond.fieldLink own idx (T k).1 (T k).2.1 (T k).2.2.1 ∈ zW) (hfin : (T k).2.2.2 = false) (hpd : parseFieldDescriptor (T k).2.2.1 = some ty) (hn : narrow ty v = v) (hfit : fits ty v = true) (hlen : k < fs.length) (he : ws[q0]? = some (a, .inr (ci, fs))) (hw : ws.set q0 (a, .inr (ci, fs.set k v)) = w1) (hd : decode cc pc = .ok (.putfield idx, 3)) (kk : ZX p l e R s m args below meth c nL D A cells slots Q w1 (pc + 3) lv st) : ZX p l e R s m args below meth c nL D A cells slots Q ws pc lv (v :: .ref a :: st) := by
  intro H locs ls hP hD hS hl
  refine va_put C.x C.b C.w hin ty0 hty hnm C.o C.k hP hD hS q0 he hc k hkN (C.w _ hlk) (fun _ h => h) hfin hpd hn hfit hlen hd (fun H1 locs1 hP1 hD1 hS1 => ?_)
  rw [hw] at hP1 hD1
  exact kk H1 locs1 ls hP1 hD1 hS1 hl
theorem zx_putF (C : ZY p s m args meth c cc own nL D cy A) {cn : String} {T : u_T} {Nf ci k q0 : Nat} {a : Nat} {fs : List Value} {v : Value} {idx : Nat} {ty : FieldType} (ty0 : Nat → FieldType) (hc : vwCl[ci]? = some (cn, T, Nf)) (hin : ∀ w ∈ u_ws cn T Nf, w ∈ zW) (hty : ∀ k, k < Nf → parseFieldDescriptor (T k).2.2.1 = some (ty0 k)) (hnm : ∀ a, a < Nf → ∀ b, b < Nf → a ≠ b → (T a).2.1 ≠ (T b).2.1) (hkN : k < Nf) (hlk : Cond.fieldLink own idx (T k).1 (T k).2.1 (T k).2.2.1 ∈ zW) (hnm2 : meth.name = "<init>") (hdecl : (T k).1 = own) (hfin : (T k).2.2.2 = true) (hpd : parseFieldDescriptor (T k).2.2.1 = some ty) (hn : narrow ty v = v) (hfit : fits ty v = true) (hlen : k < fs.length) (he : ws[q0]? = some (a, .inr (ci, fs))) (hw : ws.set q0 (a, .inr (ci, fs.set k v)) = w1) (hd : decode cc pc = .ok (.putfield idx, 3)) (kk : ZX p l e R s m args below meth c nL D A cells slots Q w1 (pc + 3) lv st) : ZX p l e R s m args below meth c nL D A cells slots Q ws pc lv (v :: .ref a :: st) := by
  intro H locs ls hP hD hS hl
  refine va_putF C.x C.b C.w hin ty0 hty hnm C.o C.k hP hD hS q0 he hc k hkN (C.w _ hlk) (fun _ h => h) hfin hnm2 hdecl hpd hn hfit hlen hd (fun H1 locs1 hP1 hD1 hS1 => ?_)
  rw [hw] at hP1 hD1
  exact kk H1 locs1 ls hP1 hD1 hS1 hl
theorem zx_new (C : ZY p s m args meth c cc own nL D cy A) {cn : String} {T : u_T} {Nf ci idx : Nat} (fs : List Value) (ty0 : Nat → FieldType) (hc : vwCl[ci]? = some (cn, T, Nf)) (hin : ∀ w ∈ u_ws cn T Nf, w ∈ zW) (hty : ∀ k, k < Nf → parseFieldDescriptor (T k).2.2.1 = some (ty0 k)) (w1 : Cond.classLink own idx cn ∈ zW) (w2 : Cond.instantiable cn Nf ∈ zW) (w3 : Cond.initialized cn ∈ zW) (hfs : ∀ j, j < Nf → defaultValue (ty0 j) = vp_V fs j) (hcells : cells + 1 ≤ R.cells) (hslots : slots + Nf ≤ R.slots) (hd : decode cc pc = .ok (.new idx, 3)) (kk : ∀ q : Nat, ZX p l e R s m args below meth c nL D A (cells + 1) (slots + Nf) Q (ws ++ [(q, .inr (ci, fs))]) (pc + 3) lv (.ref q :: st)) : ZX p l e R s m args below meth c nL D A cells slots Q ws pc lv st := by
  intro H locs ls hP hD hS hl
  exact va_new C.x C.b C.w hin ty0 hty C.o (C.w _ w1) (C.w _ w2) (C.w _ w3) C.k hP hD hS C.a hc hfs hcells hslots hd (fun q H1 hP1 hD1 hS1 => kk q H1 locs ls hP1 hD1 hS1 hl)
theorem zx_newa (C : ZY p s m args meth c cc own nL D cy A) {n : Int32} (N' : Nat) (w1 : Cond.arrayClass .int ∈ zW) (hn : ¬ n < 0) (hN : n.toNatClampNeg = N') (hb1 : N' * 4 ≤ 536870912) (hcells : cells + 1 ≤ R.cells) (hslots : slots + N' ≤ R.slots) (hd : decode cc pc = .ok (.newarray .int, 2)) (kk : ∀ q : Nat, ZX p l e R s m args below meth c nL D A (cells + 1) (slots + N') Q (ws ++ [zci cy N' q]) (pc + 2) lv (.ref q :: st)) : ZX p l e R s m args below meth c nL D A cells slots Q ws pc lv (.int n :: st) := by
  intro H locs ls hP hD hS hl
  refine va_newa (atype := .int) (ty := .int) (N' := N') (a0 := (N', .inl (fun _ => 0))) C.x C.b (C.w _ w1) rfl C.k hP hD hS C.a (fun _ => rfl) hn hN hb1 hcells hslots hd (fun q cA H1 hK1 hP1 hD1 hS1 => ?_)
  have h := z_cls hK1 0 rfl
  subst h
  exact kk q H1 locs ls hP1 hD1 hS1 hl
theorem zx_newq (C : ZY p s m args meth c cc own nL D cy A) {n : Int32} {Cn : String} {idx : Nat} (N' k : Nat) (w1 : Cond.classLink own idx Cn ∈ zW) (hAO : va_AO Cn s) (hk : (zTys cy)[k]? = some (cy (k + 6), .object Cn)) (hn : ¬ n < 0) (hN : n.toNatClampNeg = N') (hb1 : N' * 4 ≤ 536870912) (hcells : cells + 1 ≤ R.cells) (hslots : slots + N' ≤ R.slots) (hd : decode cc pc = .ok (.anewarray idx, 3)) (kk : ∀ q : Nat, ZX p l e R s m args below meth c nL D A (cells + 1) (slots + N') Q (ws ++ [zcq cy (k + 6) N' q (fun _ => none)]) (pc + 3) lv (.ref q :: st)) : ZX p l e R s m args below meth c nL D A cells slots Q ws pc lv (.int n :: st) := by
  intro H locs ls hP hD hS hl
  refine va_newq (N' := N') C.x C.b C.o (C.w _ w1) hAO C.k hP hD hS C.a hn hN hb1 hcells hslots hd (fun q cA H1 hK1 hP1 hD1 hS1 => ?_)
  have h := z_cls hK1 k hk
  subst h
  exact kk q H1 locs ls hP1 hD1 hS1 hl
theorem zx_iast (C : ZY p s m args meth c cc own nL D cy A) {a n q0 : Nat} {f : Nat → Int32} {i x : Int32} (he : ws[q0]? = some (zcf cy n a f)) (hin : vp_in i n) (hw : ws.set q0 (zcf cy n a (upd f i.toNatClampNeg x)) = w1) (hd : decode cc pc = .ok (.iastore, 1)) (kk : ZX p l e R s m args below meth c nL D A cells slots Q w1 (pc + 1) lv st) : ZX p l e R s m args below meth c nL D A cells slots Q ws pc lv (.int x :: .int i :: .ref a :: st) := by
  intro H locs ls hP hD hS hl
  refine va_iast C.x C.b C.k hP hD hS q0 0 he rfl hin hd (fun H1 locs1 hP1 hD1 hS1 => ?_)
  rw [hw] at hP1 hD1
  exact kk H1 locs1 ls hP1 hD1 hS1 hl
theorem zx_astq (C : ZY p s m args meth c cc own nL D cy A) {a n q0 qk ci k v : Nat} {r : vw_C} {vs : List Value} {f : Nat → Option Nat} {i : Int32} (he : ws[q0]? = some (zcq cy (k + 6) n a f)) (hk : (zTys cy)[k]? = some (cy (k + 6), .object r.1)) (hv : ws[qk]? = some (v, .inr (ci, vs))) (hc : vwCl[ci]? = some r) (hin : vp_in i n) (hw : ws.set q0 (zcq cy (k + 6) n a (va_up f i.toNatClampNeg (some v))) = w1) (hd : decode cc pc = .ok (.aastore, 1)) (kk : ZX p l e R s m args below meth c nL D A cells slots Q w1 (pc + 1) lv st) : ZX p l e R s m args below meth c nL D A cells slots Q ws pc lv (.ref v :: .int i :: .ref a :: st) := by
  intro H locs ls hP hD hS hl
  refine va_astq C.x C.b C.k hP hD hS q0 k qk ci he hk hv hc hin hd (fun H1 locs1 hP1 hD1 hS1 => ?_)
  rw [hw] at hP1 hD1
  exact kk H1 locs1 ls hP1 hD1 hS1 hl
theorem zx_callI (C : ZY p s m args meth c cc own nL D cy A) {y : MethodName} {bytes : ByteArray} {maxL idx mc ms b : Nat} {rm : Room} {wc wr : va_W} {w2 : (Nat → Nat) → va_W} (hM : ZMk l y bytes maxL rm mc ms D cy [.ref b] wc w2) (w1 : Cond.methodLink own idx y ∈ zW) (w2w : Cond.instanceMethod y ∈ zW) (w4 : Cond.initialized y.cls ∈ zW) (w5 : Cond.code y bytes maxL none ∈ zW) (hy1 : y.name = "<init>") (hd0 : y.cls ≠ "java/lang/invoke/MethodHandle" ∧ y.cls ≠ "java/lang/invoke/VarHandle" ∧ (parseMethodDescriptor y.desc).map (fun d => d.parameters.length) = some 0) (hR : rm.frames + 1 ≤ R.frames ∧ 8 + (maxL + 11) + rm.locals ≤ R.locals) (hrc : rm.cells = mc) (hrs : rm.slots = ms) (hcs : cells + mc ≤ R.cells ∧ slots + ms ≤ R.slots) (isC isR : List Nat) (hC : isC.map (fun i => ws[i]?) = wc.map some) (hCf : isC.filterMap (fun i => ws[i]?) = wc) (hRr : isR.map (fun i => ws[i]?) = wr.map some) (hnC : va_nd isC = true) (hn : va_nd isR = true) (hdis : ∀ i ∈ isR, i ∉ isC) (hW : (st.map fun v => v.category).sum ≤ 8) (hd : decode cc pc = .ok (.invokespecial idx, 3)) (kk : ∀ u : Nat → Nat, ZX p l e R s m args below meth c nL D A (cells + mc) (slots + ms) Q (wr ++ w2 u) (pc + 3) lv st) : ZX p l e R s m args below meth c nL D A cells slots Q ws pc lv (.ref b :: st) := by
  intro H locs ls hP hD hS hl
  have hPc := hP.sub (ws' := wc) isC hCf
  have hDc := hD.sub (ws' := wc) isC hnC hC
  have hFc := va_free (wc := wc) hD hS C.a isC hC
  refine va_callv (va_runI (As := []) (rest := st) ⟨C.x, C.b, C.ml, C.o, C.w⟩ (hM H.size) (cwI 0 C.w (zGood w5) rfl hrc hrs (C.w _ w4) (C.w _ w1) (C.w _ w2w) hy1 hd0 hR) ⟨zXPre.blind, fun U hU hW => ⟨rfl, by rw [hU], by rw [hU]; exact hPc, va_K.moved hW.alike C.k, hDc.weaken (fun _ _ _ _ => trivial), zCb.warm hW C.cb⟩⟩ rfl rfl hl.1 rfl (lv_room hW) hd hcs) hS (fun q _ h => hFc q h) hFc (fun u t H1 locs1 ht hvm hw hB hz1 hk1 hS1 => ?_)
  obtain ⟨hP1, hD1⟩ := hB
  rw [ht] at hP1
  obtain ⟨hP2, hD2⟩ := va_join (wr := wr) (w1 := w2 u) hP hD isC isR hC hRr hn hdis hk1 hFc hP1 hD1
  exact kk u H1 locs1 ls hP2 hD2 hS1 hl
theorem zx_callN (C : ZY p s m args meth c cc own nL D cy A) {y : MethodName} {bytes : ByteArray} {maxL idx mc ms b : Nat} {rm : Room} {wc wr : va_W} {w2 : (Nat → Nat) → va_W} (hM : ZMk l y bytes maxL rm mc ms D cy [.ref b] wc w2) {host : String} (w1 : va_Nw (.methodLinkNest own idx y host) s) (w2w : Cond.instanceMethod y ∈ zW) (w4 : Cond.initialized y.cls ∈ zW) (w5 : Cond.code y bytes maxL none ∈ zW) (hy1 : y.name = "<init>") (hd0 : y.cls ≠ "java/lang/invoke/MethodHandle" ∧ y.cls ≠ "java/lang/invoke/VarHandle" ∧ (parseMethodDescriptor y.desc).map (fun d => d.parameters.length) = some 0) (hR : rm.frames + 1 ≤ R.frames ∧ 8 + (maxL + 11) + rm.locals ≤ R.locals) (hrc : rm.cells = mc) (hrs : rm.slots = ms) (hcs : cells + mc ≤ R.cells ∧ slots + ms ≤ R.slots) (isC isR : List Nat) (hC : isC.map (fun i => ws[i]?) = wc.map some) (hCf : isC.filterMap (fun i => ws[i]?) = wc) (hRr : isR.map (fun i => ws[i]?) = wr.map some) (hnC : va_nd isC = true) (hn : va_nd isR = true) (hdis : ∀ i ∈ isR, i ∉ isC) (hW : (st.map fun v => v.category).sum ≤ 8) (hd : decode cc pc = .ok (.invokespecial idx, 3)) (kk : ∀ u : Nat → Nat, ZX p l e R s m args below meth c nL D A (cells + mc) (slots + ms) Q (wr ++ w2 u) (pc + 3) lv st) : ZX p l e R s m args below meth c nL D A cells slots Q ws pc lv (.ref b :: st) := by
  intro H locs ls hP hD hS hl
  have hPc := hP.sub (ws' := wc) isC hCf
  have hDc := hD.sub (ws' := wc) isC hnC hC
  have hFc := va_free (wc := wc) hD hS C.a isC hC
  refine va_callv (va_runIN (As := []) (rest := st) ⟨C.x, C.b, C.ml, C.o, C.w⟩ (hM H.size) ⟨va_cnB 0 C.w (zGood w5) rfl hrc hrs w1 (C.w _ w4) hd0 hR, hy1, C.w _ w2w⟩ ⟨zXPre.blind, fun U hU hW => ⟨rfl, by rw [hU], by rw [hU]; exact hPc, va_K.moved hW.alike C.k, hDc.weaken (fun _ _ _ _ => trivial), zCb.warm hW C.cb⟩⟩ rfl rfl hl.1 rfl (lv_room hW) hd hcs) hS (fun q _ h => hFc q h) hFc (fun u t H1 locs1 ht hvm hw hB hz1 hk1 hS1 => ?_)
  obtain ⟨hP1, hD1⟩ := hB
  rw [ht] at hP1
  obtain ⟨hP2, hD2⟩ := va_join (wr := wr) (w1 := w2 u) hP hD isC isR hC hRr hn hdis hk1 hFc hP1 hD1
  exact kk u H1 locs1 ls hP2 hD2 hS1 hl
theorem zx_vret (C : ZY p s m args meth c cc own nL D cy A) {w2 : (Nat → Nat) → va_W} (u : Nat → Nat) (hw : ws = w2 u) (hr : meth.sig.returnType = none) (hd : decode cc pc = .ok (.return_, 1)) : ZX p l e R s m args below meth c nL D A cells slots (MQ below (va_Qv (fun _ : Nat → Nat => True) (fun u t => va_P D vwCl (w2 u) t.heap ∧ va_D A (w2 u)) A) args s cells slots A) ws pc lv [] := by
  intro H locs ls hP hD hS hl
  exact W.vret C.x C.b hr (fun t ht hW => ⟨⟨u, rfl, trivial, by rw [ht, ← hw]; exact hP, by rw [← hw]; exact hD⟩, hS.F ht⟩) hS.2.2 hd C.lk
theorem ZMk.of {y : MethodName} {rm : Room} {avs : List Value} {ws : va_W} {w2 : (Nat → Nat) → va_W} {mc ms : Nat} (hrc : rm.cells = mc) (hrs : rm.slots = ms) (hy : plainName y.cls = true) (hyn : y.name = "<init>") (hlen : (lg_sl avs).length ≤ nL) (body : ∀ (p : Program) (e : Env) (s : State) (m : MethodId) (args : Array Value) (below : List Frame) (meth : Method) (c : Code) (A : Nat → Prop), ZY p s m args meth c cc y.cls nL D cy A → meth.sig.returnType = none → meth.name = "<init>" → ZX p l e rm s m args below meth c nL D A 0 0 (MQ below (va_Qv (fun _ : Nat → Nat => True) (fun u t => va_P D vwCl (w2 u) t.heap ∧ va_D A (w2 u)) A) args s mc ms A) ws 0 (lv_args 0 avs) []) : ZMk l y cc nL rm mc ms D cy avs ws w2 := by
  intro sz
  refine Met.ofW (cc := cc) (maxL := nL) (ret := none) hy rfl ?_
  intro p e s m args below meth c s₁ B hml hv
  obtain ⟨rfl, hsz, hP, hK, hD0, hCb⟩ := hv
  subst hsz
  have hts := atoms_spec (ws := .code y cc nL none :: zW) B.pre
  have hD := hD0.self (sz := s.heap.size)
  have C : ZY p s m avs.toArray meth c cc y.cls nL D cy (va_A ws s.heap.size) := ⟨B.exec, B.bytes, hml, fun w h => hts w (List.mem_cons_of_mem _ h), findClass_of_methodNamed B.named, B.notSynchronized, hK, fun q h => Or.inr h, hCb⟩
  rw [lg_entry_eq]
  exact body p e s m avs.toArray below meth c _ C B.returns ((name_of_methodNamed B.named B.method).1.trans hyn) s.heap [] _ hP hD va_S.rf (lv_entry avs hlen)
end ZKX
