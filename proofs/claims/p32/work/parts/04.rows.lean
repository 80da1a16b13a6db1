theorem z_upI (cy : Nat → ClassId) {K N : Nat → Nat} {F G : Nat → Nat → Nat} {I A : zH} {a ci k : Nat} {v : Int32} (hk : K a = ci) (h6 : ci < 6) (b : Nat) : va_up (zM cy K N F G I A) a (.inr (ci, zF ci F (up2 I a k v) a)) b = zM cy K N F G (up2 I a k v) A b := by
  by_cases hb : b = a
  · subst hb
    simp only [va_up, zM, hk, if_pos h6, if_true]
  · have h1 : ∀ c, zF c F (up2 I a k v) b = zF c F I b := by
      intro c
      have h2 : ∀ j, up2 I a k v b j = I b j := fun j => by simp only [up2, if_neg hb]
      unfold zF
      simp only [h2]
    simp only [va_up, if_neg hb, zM, h1]
theorem z_upA (cy : Nat → ClassId) {K N : Nat → Nat} {F G : Nat → Nat → Nat} {I A : zH} {a n k : Nat} {x : Int32} (hk : K a = 6) (hn : N a = n) (b : Nat) : va_up (zM cy K N F G I A) a (.inl (cy 6, n, .inl (upd (A a) k x))) b = zM cy K N F G I (up2 A a k x) b := by
  by_cases hb : b = a
  · subst hb
    have h2 : up2 A b k x b = upd (A b) k x := by funext j; simp only [up2, upd, if_true]
    simp [va_up, zM, hk, hn, h2]
  · have h2 : up2 A a k x b = A b := by funext j; simp only [up2, if_neg hb]
    simp only [va_up, if_neg hb, zM, h2]
theorem z_free {L : List Nat} {s : State} {H : Heap} {locs : List Loc} (hS : va_S (zA L s.heap.size) s.heap H locs) : ∀ q, zA L H.size q → zA L s.heap.size q := fun q h => h.elim Or.inl (fun h => Or.inr (Nat.le_trans hS.1 h))
theorem va_aldqA {p : Program} {l : Launch} {e : Env} {R : Room} {s : State} {m : MethodId} {args : Array Value} {below : List Frame} {meth : Method} {c : Code} {H : Heap} {locs : List Loc} {cells slots : Nat} {Q : State → Prop} {cc : ByteArray} {pc : Nat} {ls : Array Slot} {rest : List Value} {D : va_G} {cl : List vw_C} {ws : va_W} {tys : List (ClassId × FieldType)} {a : Nat} (hexec : p.tables.exec = Jvm.exec) (hb : c.code = cc) (hK : va_K D cl tys s) (hP : va_P D cl ws H) (q0 t0 : Nat) {cA : ClassId} {C : FieldType} {n : Nat} {f : Nat → Option Nat} (ha : ws[q0]? = some (a, .inl (cA, n, .inr (.inr (.inr (.inr f)))))) (ht : tys[t0]? = some (cA, .array C)) {i : Int32} (hin : vp_in i n) (hdg : decode cc pc = .ok (.aaload, 1)) (kk : W p l e R s m args below meth c H locs cells slots Q (F0 m (pc + 1) ls (va_rf (f i.toNatClampNeg) :: rest))) : W p l e R s m args below meth c H locs cells slots Q (F0 m pc ls (.int i :: .ref a :: rest)) := by
  have hlt : i.toNatClampNeg < n := Nat.not_le.mp fun q => hin (Or.inr q)
  exact W.aald (v := va_rf (f i.toNatClampNeg)) (ty := .array C) hexec hb (hP q0 _ ha) ((hK.2 t0 _ ht).1 n (fun j => va_rf (f j))) rfl (fun q => by cases q) (by show ¬ (i < 0 ∨ (arrV _ _ _).slots.size ≤ _); rw [arrV_size]; exact hin) (by show (arrV _ _ _).slots[_]? = _; rw [arrV_read _ _ hlt]) rfl rfl hdg kk
section ZK
variable {p : Program} {l : Launch} {e : Env} {R : Room} {s : State} {m : MethodId} {args : Array Value} {below : List Frame} {meth : Method} {c : Code} {cells slots : Nat} {Q : State → Prop}
variable {cc : ByteArray} {own : String} {nL : Nat} {D : va_G} {cy : Nat → ClassId} {L : List Nat} {K N : Nat → Nat} {F G : Nat → Nat → Nat}
variable {I A I' A' : zH} {pc : Nat} {lv lv' : List (Nat × Value)} {st : List Value}
/-- the machine at pc, over every heap that holds the state I, A and what E says beside it -/
def ZW (p : Program) (l : Launch) (e : Env) (R : Room) (s : State) (m : MethodId) (args : Array Value) (below : List Frame) (meth : Method) (c : Code) (nL : Nat) (D : va_G) (cy : Nat → ClassId) (L : List Nat) (K N : Nat → Nat) (F G : Nat → Nat → Nat) (cells slots : Nat) (Q : State → Prop) (I A : zH) (pc : Nat) (lv : List (Nat × Value)) (st : List Value) : Prop :=
  ∀ (H : Heap) (locs : List Loc) (ls : Array Slot), va_P D vwCl (va_pl L (zM cy K N F G I A)) H → va_S (zA L s.heap.size) s.heap H locs → lv_has ls nL lv → W p l e R s m args below meth c H locs cells slots Q (F0 m pc ls st)
/-- what stays for a whole body: the machine, the code, the words, the tables -/
def ZC (p : Program) (s : State) (m : MethodId) (args : Array Value) (meth : Method) (c : Code) (cc : ByteArray) (own : String) (nL : Nat) (D : va_G) (cy : Nat → ClassId) (L : List Nat) (K N : Nat → Nat) (F G : Nat → Nat → Nat) : Prop :=
  p.tables.exec = Jvm.exec ∧ c.code = cc ∧ c.maxLocals = nL ∧ (∀ w ∈ zW, w.before args s = true) ∧ s.vm.findClass own = some m.cls ∧ meth.locks = false ∧ va_K D vwCl (zTys cy) s ∧ ZL L K N F G ∧ zNb s
theorem ZC.x (C : ZC p s m args meth c cc own nL D cy L K N F G) : p.tables.exec = Jvm.exec := C.1
theorem ZC.b (C : ZC p s m args meth c cc own nL D cy L K N F G) : c.code = cc := C.2.1
theorem ZC.ml (C : ZC p s m args meth c cc own nL D cy L K N F G) : c.maxLocals = nL := C.2.2.1
theorem ZC.w (C : ZC p s m args meth c cc own nL D cy L K N F G) : ∀ w ∈ zW, w.before args s = true := C.2.2.2.1
theorem ZC.o (C : ZC p s m args meth c cc own nL D cy L K N F G) : s.vm.findClass own = some m.cls := C.2.2.2.2.1
theorem ZC.lk (C : ZC p s m args meth c cc own nL D cy L K N F G) : meth.locks = false := C.2.2.2.2.2.1
theorem ZC.k (C : ZC p s m args meth c cc own nL D cy L K N F G) : va_K D vwCl (zTys cy) s := C.2.2.2.2.2.2.1
theorem ZC.z (C : ZC p s m args meth c cc own nL D cy L K N F G) : ZL L K N F G := C.2.2.2.2.2.2.2.1
theorem ZC.nb (C : ZC p s m args meth c cc own nL D cy L K N F G) : zNb s := C.2.2.2.2.2.2.2.2
theorem ZC.d (C : ZC p s m args meth c cc own nL D cy L K N F G) (f : Nat → va_E) : va_D (zA L s.heap.size) (va_pl L f) := z_D C.z.2.1 _ f
theorem zr_iconst (C : ZC p s m args meth c cc own nL D cy L K N F G) {n : Int} {v : Int32} (hv : Int32.ofInt n = v) (hd : decode cc pc = .ok (.iconst n, 1)) (kk : ZW p l e R s m args below meth c nL D cy L K N F G cells slots Q I A (pc + 1) lv (.int v :: st)) : ZW p l e R s m args below meth c nL D cy L K N F G cells slots Q I A pc lv st := by
  intro H locs ls hP hS hl
  exact lv_iconst C.x C.b hd hv (kk H locs ls hP hS hl)
theorem zr_bipush (C : ZC p s m args meth c cc own nL D cy L K N F G) {n : Int} {v : Int32} (hv : (Int8.ofInt n).toInt32 = v) (hd : decode cc pc = .ok (.bipush n, 2)) (kk : ZW p l e R s m args below meth c nL D cy L K N F G cells slots Q I A (pc + 2) lv (.int v :: st)) : ZW p l e R s m args below meth c nL D cy L K N F G cells slots Q I A pc lv st := by
  intro H locs ls hP hS hl
  exact lv_bipush C.x C.b hd hv (kk H locs ls hP hS hl)
theorem zr_ldc (C : ZC p s m args meth c cc own nL D cy L K N F G) {index : Nat} {v : Int32} (hc : Cond.constant own index v ∈ zW) (hd : decode cc pc = .ok (.ldc index, 2)) (kk : ZW p l e R s m args below meth c nL D cy L K N F G cells slots Q I A (pc + 2) lv (.int v :: st)) : ZW p l e R s m args below meth c nL D cy L K N F G cells slots Q I A pc lv st := by
  intro H locs ls hP hS hl
  exact lv_ldc C.x C.b C.o (C.w _ hc) hd (kk H locs ls hP hS hl)
theorem zr_ldcw (C : ZC p s m args meth c cc own nL D cy L K N F G) {index : Nat} {v : Int32} (hc : Cond.constant own index v ∈ zW) (hd : decode cc pc = .ok (.ldc_w index, 3)) (kk : ZW p l e R s m args below meth c nL D cy L K N F G cells slots Q I A (pc + 3) lv (.int v :: st)) : ZW p l e R s m args below meth c nL D cy L K N F G cells slots Q I A pc lv st := by
  intro H locs ls hP hS hl
  exact lv_ldcw C.x C.b C.o (C.w _ hc) hd (kk H locs ls hP hS hl)
theorem zr_ldc2 (C : ZC p s m args meth c cc own nL D cy L K N F G) {index : Nat} {v : Int64} (hc : Cond.constantLong own index v ∈ zW) (hd : decode cc pc = .ok (.ldc2_w index, 3)) (kk : ZW p l e R s m args below meth c nL D cy L K N F G cells slots Q I A (pc + 3) lv (.long v :: st)) : ZW p l e R s m args below meth c nL D cy L K N F G cells slots Q I A pc lv st := by
  intro H locs ls hP hS hl
  exact lv_ldc2 C.x C.b C.o (C.w _ hc) hd (kk H locs ls hP hS hl)
theorem zr_iload (C : ZC p s m args meth c cc own nL D cy L K N F G) {i : Nat} {x : Int32} (k : Nat) (hk : lv[k]? = some (i, .int x)) (hd : decode cc pc = .ok (.iload i, 2)) (kk : ZW p l e R s m args below meth c nL D cy L K N F G cells slots Q I A (pc + 2) lv (.int x :: st)) : ZW p l e R s m args below meth c nL D cy L K N F G cells slots Q I A pc lv st := by
  intro H locs ls hP hS hl
  exact lv_iload C.x C.b hd (lv_at hl k hk) (kk H locs ls hP hS hl)
theorem zr_iload_n (C : ZC p s m args meth c cc own nL D cy L K N F G) {j : Fin 4} {i : Nat} {x : Int32} (k : Nat) (hi : (j : Nat) = i) (hk : lv[k]? = some (i, .int x)) (hd : decode cc pc = .ok (.iload_n j, 1)) (kk : ZW p l e R s m args below meth c nL D cy L K N F G cells slots Q I A (pc + 1) lv (.int x :: st)) : ZW p l e R s m args below meth c nL D cy L K N F G cells slots Q I A pc lv st := by
  intro H locs ls hP hS hl
  exact lv_iload_n C.x C.b hd hi (lv_at hl k hk) (kk H locs ls hP hS hl)
theorem zr_istore (C : ZC p s m args meth c cc own nL D cy L K N F G) {i : Nat} {x : Int32} (hn : i < nL) (hl' : (i, Value.int x) :: lv.filter (fun q => !(q.1 == i) && !(q.1 + 1 == i && q.2.category == 2)) = lv') (hd : decode cc pc = .ok (.istore i, 2)) (kk : ZW p l e R s m args below meth c nL D cy L K N F G cells slots Q I A (pc + 2) lv' st) : ZW p l e R s m args below meth c nL D cy L K N F G cells slots Q I A pc lv (.int x :: st) := by
  intro H locs ls hP hS hl
  exact lv_istore C.x C.b hd hl hn hl' (fun ls2 hl2 => kk H locs ls2 hP hS hl2)
theorem zr_istore_n (C : ZC p s m args meth c cc own nL D cy L K N F G) {j : Fin 4} {i : Nat} {x : Int32} (hi : (j : Nat) = i) (hn : i < nL) (hl' : (i, Value.int x) :: lv.filter (fun q => !(q.1 == i) && !(q.1 + 1 == i && q.2.category == 2)) = lv') (hd : decode cc pc = .ok (.istore_n j, 1)) (kk : ZW p l e R s m args below meth c nL D cy L K N F G cells slots Q I A (pc + 1) lv' st) : ZW p l e R s m args below meth c nL D cy L K N F G cells slots Q I A pc lv (.int x :: st) := by
  intro H locs ls hP hS hl
  exact lv_istore_n C.x C.b hd hi hl hn hl' (fun ls2 hl2 => kk H locs ls2 hP hS hl2)
theorem zr_aload (C : ZC p s m args meth c cc own nL D cy L K N F G) {i : Nat} {x : Nat} (k : Nat) (hk : lv[k]? = some (i, .ref x)) (hd : decode cc pc = .ok (.aload i, 2)) (kk : ZW p l e R s m args below meth c nL D cy L K N F G cells slots Q I A (pc + 2) lv (.ref x :: st)) : ZW p l e R s m args below meth c nL D cy L K N F G cells slots Q I A pc lv st := by
  intro H locs ls hP hS hl
  exact lv_aload C.x C.b hd (lv_at hl k hk) (kk H locs ls hP hS hl)
theorem zr_aload_n (C : ZC p s m args meth c cc own nL D cy L K N F G) {j : Fin 4} {i : Nat} {x : Nat} (k : Nat) (hi : (j : Nat) = i) (hk : lv[k]? = some (i, .ref x)) (hd : decode cc pc = .ok (.aload_n j, 1)) (kk : ZW p l e R s m args below meth c nL D cy L K N F G cells slots Q I A (pc + 1) lv (.ref x :: st)) : ZW p l e R s m args below meth c nL D cy L K N F G cells slots Q I A pc lv st := by
  intro H locs ls hP hS hl
  exact lv_aload_n C.x C.b hd hi (lv_at hl k hk) (kk H locs ls hP hS hl)
theorem zr_astore (C : ZC p s m args meth c cc own nL D cy L K N F G) {i : Nat} {x : Nat} (hn : i < nL) (hl' : (i, Value.ref x) :: lv.filter (fun q => !(q.1 == i) && !(q.1 + 1 == i && q.2.category == 2)) = lv') (hd : decode cc pc = .ok (.astore i, 2)) (kk : ZW p l e R s m args below meth c nL D cy L K N F G cells slots Q I A (pc + 2) lv' st) : ZW p l e R s m args below meth c nL D cy L K N F G cells slots Q I A pc lv (.ref x :: st) := by
  intro H locs ls hP hS hl
  exact lv_astore C.x C.b hd hl hn hl' (fun ls2 hl2 => kk H locs ls2 hP hS hl2)
theorem zr_astore_n (C : ZC p s m args meth c cc own nL D cy L K N F G) {j : Fin 4} {i : Nat} {x : Nat} (hi : (j : Nat) = i) (hn : i < nL) (hl' : (i, Value.ref x) :: lv.filter (fun q => !(q.1 == i) && !(q.1 + 1 == i && q.2.category == 2)) = lv') (hd : decode cc pc = .ok (.astore_n j, 1)) (kk : ZW p l e R s m args below meth c nL D cy L K N F G cells slots Q I A (pc + 1) lv' st) : ZW p l e R s m args below meth c nL D cy L K N F G cells slots Q I A pc lv (.ref x :: st) := by
  intro H locs ls hP hS hl
  exact lv_astore_n C.x C.b hd hi hl hn hl' (fun ls2 hl2 => kk H locs ls2 hP hS hl2)
theorem zr_lload (C : ZC p s m args meth c cc own nL D cy L K N F G) {i : Nat} {x : Int64} (k : Nat) (hk : lv[k]? = some (i, .long x)) (hd : decode cc pc = .ok (.lload i, 2)) (kk : ZW p l e R s m args below meth c nL D cy L K N F G cells slots Q I A (pc + 2) lv (.long x :: st)) : ZW p l e R s m args below meth c nL D cy L K N F G cells slots Q I A pc lv st := by
  intro H locs ls hP hS hl
  exact lv_lload C.x C.b hd (lv_at hl k hk) (kk H locs ls hP hS hl)
theorem zr_lload_n (C : ZC p s m args meth c cc own nL D cy L K N F G) {j : Fin 4} {i : Nat} {x : Int64} (k : Nat) (hi : (j : Nat) = i) (hk : lv[k]? = some (i, .long x)) (hd : decode cc pc = .ok (.lload_n j, 1)) (kk : ZW p l e R s m args below meth c nL D cy L K N F G cells slots Q I A (pc + 1) lv (.long x :: st)) : ZW p l e R s m args below meth c nL D cy L K N F G cells slots Q I A pc lv st := by
  intro H locs ls hP hS hl
  exact lv_lload_n C.x C.b hd hi (lv_at hl k hk) (kk H locs ls hP hS hl)
theorem zr_lstore (C : ZC p s m args meth c cc own nL D cy L K N F G) {i : Nat} {x : Int64} (hn : i + 1 < nL) (hl' : (i, Value.long x) :: lv.filter (fun q => !(q.1 == i) && (!(q.1 == i + 1) && !(q.1 + 1 == i && q.2.category == 2))) = lv') (hd : decode cc pc = .ok (.lstore i, 2)) (kk : ZW p l e R s m args below meth c nL D cy L K N F G cells slots Q I A (pc + 2) lv' st) : ZW p l e R s m args below meth c nL D cy L K N F G cells slots Q I A pc lv (.long x :: st) := by
  intro H locs ls hP hS hl
  exact lv_lstore C.x C.b hd hl hn hl' (fun ls2 hl2 => kk H locs ls2 hP hS hl2)
theorem zr_lstore_n (C : ZC p s m args meth c cc own nL D cy L K N F G) {j : Fin 4} {i : Nat} {x : Int64} (hi : (j : Nat) = i) (hn : i + 1 < nL) (hl' : (i, Value.long x) :: lv.filter (fun q => !(q.1 == i) && (!(q.1 == i + 1) && !(q.1 + 1 == i && q.2.category == 2))) = lv') (hd : decode cc pc = .ok (.lstore_n j, 1)) (kk : ZW p l e R s m args below meth c nL D cy L K N F G cells slots Q I A (pc + 1) lv' st) : ZW p l e R s m args below meth c nL D cy L K N F G cells slots Q I A pc lv (.long x :: st) := by
  intro H locs ls hP hS hl
  exact lv_lstore_n C.x C.b hd hi hl hn hl' (fun ls2 hl2 => kk H locs ls2 hP hS hl2)
theorem zr_iinc (C : ZC p s m args meth c cc own nL D cy L K N F G) {i : Nat} {n : Int} {x v : Int32} (k : Nat) (hk : lv[k]? = some (i, .int x)) (hv : x + Int32.ofInt n = v) (hn : i < nL) (hl' : (i, Value.int v) :: lv.filter (fun q => !(q.1 == i) && !(q.1 + 1 == i && q.2.category == 2)) = lv') (hd : decode cc pc = .ok (.iinc i n, 3)) (kk : ZW p l e R s m args below meth c nL D cy L K N F G cells slots Q I A (pc + 3) lv' st) : ZW p l e R s m args below meth c nL D cy L K N F G cells slots Q I A pc lv st := by
  intro H locs ls hP hS hl
  exact lv_iinc C.x C.b hd hl hk hv hn hl' (fun ls2 hl2 => kk H locs ls2 hP hS hl2)
theorem zr_lv (C : ZC p s m args meth c cc own nL D cy L K N F G) (ks : List Nat) (hl' : lv_pick lv ks = lv') (kk : ZW p l e R s m args below meth c nL D cy L K N F G cells slots Q I A pc lv' st) : ZW p l e R s m args below meth c nL D cy L K N F G cells slots Q I A pc lv st := by
  intro H locs ls hP hS hl
  exact kk H locs ls hP hS (lv_sub hl ks hl')
theorem zr_iadd (C : ZC p s m args meth c cc own nL D cy L K N F G) {x y : Int32} (hd : decode cc pc = .ok (.iadd, 1)) (kk : ZW p l e R s m args below meth c nL D cy L K N F G cells slots Q I A (pc + 1) lv (.int (x + y) :: st)) : ZW p l e R s m args below meth c nL D cy L K N F G cells slots Q I A pc lv (.int y :: .int x :: st) := by
  intro H locs ls hP hS hl
  exact lv_iadd C.x C.b hd (kk H locs ls hP hS hl)
theorem zr_isub (C : ZC p s m args meth c cc own nL D cy L K N F G) {x y : Int32} (hd : decode cc pc = .ok (.isub, 1)) (kk : ZW p l e R s m args below meth c nL D cy L K N F G cells slots Q I A (pc + 1) lv (.int (x - y) :: st)) : ZW p l e R s m args below meth c nL D cy L K N F G cells slots Q I A pc lv (.int y :: .int x :: st) := by
  intro H locs ls hP hS hl
  exact lv_isub C.x C.b hd (kk H locs ls hP hS hl)
theorem zr_imul (C : ZC p s m args meth c cc own nL D cy L K N F G) {x y : Int32} (hd : decode cc pc = .ok (.imul, 1)) (kk : ZW p l e R s m args below meth c nL D cy L K N F G cells slots Q I A (pc + 1) lv (.int (x * y) :: st)) : ZW p l e R s m args below meth c nL D cy L K N F G cells slots Q I A pc lv (.int y :: .int x :: st) := by
  intro H locs ls hP hS hl
  exact lv_imul C.x C.b hd (kk H locs ls hP hS hl)
theorem zr_iand (C : ZC p s m args meth c cc own nL D cy L K N F G) {x y : Int32} (hd : decode cc pc = .ok (.iand, 1)) (kk : ZW p l e R s m args below meth c nL D cy L K N F G cells slots Q I A (pc + 1) lv (.int (x &&& y) :: st)) : ZW p l e R s m args below meth c nL D cy L K N F G cells slots Q I A pc lv (.int y :: .int x :: st) := by
  intro H locs ls hP hS hl
  exact lv_iand C.x C.b hd (kk H locs ls hP hS hl)
theorem zr_ior (C : ZC p s m args meth c cc own nL D cy L K N F G) {x y : Int32} (hd : decode cc pc = .ok (.ior, 1)) (kk : ZW p l e R s m args below meth c nL D cy L K N F G cells slots Q I A (pc + 1) lv (.int (x ||| y) :: st)) : ZW p l e R s m args below meth c nL D cy L K N F G cells slots Q I A pc lv (.int y :: .int x :: st) := by
  intro H locs ls hP hS hl
  exact lv_ior C.x C.b hd (kk H locs ls hP hS hl)
theorem zr_ixor (C : ZC p s m args meth c cc own nL D cy L K N F G) {x y : Int32} (hd : decode cc pc = .ok (.ixor, 1)) (kk : ZW p l e R s m args below meth c nL D cy L K N F G cells slots Q I A (pc + 1) lv (.int (x ^^^ y) :: st)) : ZW p l e R s m args below meth c nL D cy L K N F G cells slots Q I A pc lv (.int y :: .int x :: st) := by
  intro H locs ls hP hS hl
  exact lv_ixor C.x C.b hd (kk H locs ls hP hS hl)
theorem zr_ishl (C : ZC p s m args meth c cc own nL D cy L K N F G) {x y : Int32} (hd : decode cc pc = .ok (.ishl, 1)) (kk : ZW p l e R s m args below meth c nL D cy L K N F G cells slots Q I A (pc + 1) lv (.int (x <<< (y &&& 31)) :: st)) : ZW p l e R s m args below meth c nL D cy L K N F G cells slots Q I A pc lv (.int y :: .int x :: st) := by
  intro H locs ls hP hS hl
  exact lv_ishl C.x C.b hd (kk H locs ls hP hS hl)
theorem zr_ishr (C : ZC p s m args meth c cc own nL D cy L K N F G) {x y : Int32} (hd : decode cc pc = .ok (.ishr, 1)) (kk : ZW p l e R s m args below meth c nL D cy L K N F G cells slots Q I A (pc + 1) lv (.int (x >>> (y &&& 31)) :: st)) : ZW p l e R s m args below meth c nL D cy L K N F G cells slots Q I A pc lv (.int y :: .int x :: st) := by
  intro H locs ls hP hS hl
  exact lv_ishr C.x C.b hd (kk H locs ls hP hS hl)
theorem zr_idiv (C : ZC p s m args meth c cc own nL D cy L K N F G) {x y : Int32} (h0 : ¬ y = 0) (hd : decode cc pc = .ok (.idiv, 1)) (kk : ZW p l e R s m args below meth c nL D cy L K N F G cells slots Q I A (pc + 1) lv (.int (x / y) :: st)) : ZW p l e R s m args below meth c nL D cy L K N F G cells slots Q I A pc lv (.int y :: .int x :: st) := by
  intro H locs ls hP hS hl
  exact lv_idiv C.x C.b hd h0 (kk H locs ls hP hS hl)
theorem zr_irem (C : ZC p s m args meth c cc own nL D cy L K N F G) {x y : Int32} (h0 : ¬ y = 0) (hd : decode cc pc = .ok (.irem, 1)) (kk : ZW p l e R s m args below meth c nL D cy L K N F G cells slots Q I A (pc + 1) lv (.int (x - x / y * y) :: st)) : ZW p l e R s m args below meth c nL D cy L K N F G cells slots Q I A pc lv (.int y :: .int x :: st) := by
  intro H locs ls hP hS hl
  exact lv_irem C.x C.b hd h0 (kk H locs ls hP hS hl)
theorem zr_iushr (C : ZC p s m args meth c cc own nL D cy L K N F G) {x y : Int32} (hd : decode cc pc = .ok (.iushr, 1)) (kk : ZW p l e R s m args below meth c nL D cy L K N F G cells slots Q I A (pc + 1) lv (.int (x.toUInt32 >>> (y.toUInt32 &&& Int32.toUInt32 31)).toInt32 :: st)) : ZW p l e R s m args below meth c nL D cy L K N F G cells slots Q I A pc lv (.int y :: .int x :: st) := by
  intro H locs ls hP hS hl
  exact lv_iushr C.x C.b hd rfl (kk H locs ls hP hS hl)
theorem zr_i2l (C : ZC p s m args meth c cc own nL D cy L K N F G) {x : Int32} (hd : decode cc pc = .ok (.i2l, 1)) (kk : ZW p l e R s m args below meth c nL D cy L K N F G cells slots Q I A (pc + 1) lv (.long x.toInt64 :: st)) : ZW p l e R s m args below meth c nL D cy L K N F G cells slots Q I A pc lv (.int x :: st) := by
  intro H locs ls hP hS hl
  exact lv_i2l C.x C.b hd rfl (kk H locs ls hP hS hl)
theorem zr_lmul (C : ZC p s m args meth c cc own nL D cy L K N F G) {x y : Int64} (hd : decode cc pc = .ok (.lmul, 1)) (kk : ZW p l e R s m args below meth c nL D cy L K N F G cells slots Q I A (pc + 1) lv (.long (x * y) :: st)) : ZW p l e R s m args below meth c nL D cy L K N F G cells slots Q I A pc lv (.long y :: .long x :: st) := by
  intro H locs ls hP hS hl
  exact lv_lmul C.x C.b hd (kk H locs ls hP hS hl)
theorem zr_ladd (C : ZC p s m args meth c cc own nL D cy L K N F G) {x y : Int64} (hd : decode cc pc = .ok (.ladd, 1)) (kk : ZW p l e R s m args below meth c nL D cy L K N F G cells slots Q I A (pc + 1) lv (.long (x + y) :: st)) : ZW p l e R s m args below meth c nL D cy L K N F G cells slots Q I A pc lv (.long y :: .long x :: st) := by
  intro H locs ls hP hS hl
  exact lv_ladd C.x C.b hd (kk H locs ls hP hS hl)
theorem zr_lcmp (C : ZC p s m args meth c cc own nL D cy L K N F G) {x y : Int64} (hd : decode cc pc = .ok (.lcmp, 1)) (kk : ZW p l e R s m args below meth c nL D cy L K N F G cells slots Q I A (pc + 1) lv (.int (lg_cmp x y) :: st)) : ZW p l e R s m args below meth c nL D cy L K N F G cells slots Q I A pc lv (.long y :: .long x :: st) := by
  intro H locs ls hP hS hl
  exact W.lcmp C.x C.b hd (kk H locs ls hP hS hl)
theorem zr_dup (C : ZC p s m args meth c cc own nL D cy L K N F G) {va : Value} (hva : va.category = 1) (hd : decode cc pc = .ok (.dup, 1)) (kk : ZW p l e R s m args below meth c nL D cy L K N F G cells slots Q I A (pc + 1) lv (va :: va :: st)) : ZW p l e R s m args below meth c nL D cy L K N F G cells slots Q I A pc lv (va :: st) := by
  intro H locs ls hP hS hl
  exact lv_dup C.x C.b hd hva (kk H locs ls hP hS hl)
theorem zr_pop (C : ZC p s m args meth c cc own nL D cy L K N F G) {va : Value} (hva : va.category = 1) (hd : decode cc pc = .ok (.pop, 1)) (kk : ZW p l e R s m args below meth c nL D cy L K N F G cells slots Q I A (pc + 1) lv st) : ZW p l e R s m args below meth c nL D cy L K N F G cells slots Q I A pc lv (va :: st) := by
  intro H locs ls hP hS hl
  exact lv_pop C.x C.b hd hva (kk H locs ls hP hS hl)
theorem zr_dup2 (C : ZC p s m args meth c cc own nL D cy L K N F G) {va vb : Value} (hva : va.category = 1) (hvb : vb.category = 1) (hd : decode cc pc = .ok (.dup2, 1)) (kk : ZW p l e R s m args below meth c nL D cy L K N F G cells slots Q I A (pc + 1) lv (va :: vb :: va :: vb :: st)) : ZW p l e R s m args below meth c nL D cy L K N F G cells slots Q I A pc lv (va :: vb :: st) := by
  intro H locs ls hP hS hl
  exact lv_dup2_11 C.x C.b hd hva hvb (kk H locs ls hP hS hl)
theorem zr_top (C : ZC p s m args meth c cc own nL D cy L K N F G) {x y : Int32} (h : x = y) (kk : ZW p l e R s m args below meth c nL D cy L K N F G cells slots Q I A pc lv (.int y :: st)) : ZW p l e R s m args below meth c nL D cy L K N F G cells slots Q I A pc lv (.int x :: st) := by
  subst h
  exact kk
theorem zr_topl (C : ZC p s m args meth c cc own nL D cy L K N F G) {x y : Int64} (h : x = y) (kk : ZW p l e R s m args below meth c nL D cy L K N F G cells slots Q I A pc lv (.long y :: st)) : ZW p l e R s m args below meth c nL D cy L K N F G cells slots Q I A pc lv (.long x :: st) := by
  subst h
  exact kk
theorem zr_if_eq (C : ZC p s m args meth c cc own nL D cy L K N F G) {x : Int32} {off : Int} {tgt : Nat} (ht : (pc : Int) + off = (tgt : Int)) (hd : decode cc pc = .ok (.ifCond .eq off, 3)) (kt : x = 0 → ZW p l e R s m args below meth c nL D cy L K N F G cells slots Q I A tgt lv st) (kf : ¬ x = 0 → ZW p l e R s m args below meth c nL D cy L K N F G cells slots Q I A (pc + 3) lv st) : ZW p l e R s m args below meth c nL D cy L K N F G cells slots Q I A pc lv (.int x :: st) := by
  intro H locs ls hP hS hl
  exact lv_if_eq C.x C.b hd ht (fun h => kt h H locs ls hP hS hl) (fun h => kf h H locs ls hP hS hl)
theorem zr_if_ne (C : ZC p s m args meth c cc own nL D cy L K N F G) {x : Int32} {off : Int} {tgt : Nat} (ht : (pc : Int) + off = (tgt : Int)) (hd : decode cc pc = .ok (.ifCond .ne off, 3)) (kt : ¬ x = 0 → ZW p l e R s m args below meth c nL D cy L K N F G cells slots Q I A tgt lv st) (kf : x = 0 → ZW p l e R s m args below meth c nL D cy L K N F G cells slots Q I A (pc + 3) lv st) : ZW p l e R s m args below meth c nL D cy L K N F G cells slots Q I A pc lv (.int x :: st) := by
  intro H locs ls hP hS hl
  exact lv_if_ne C.x C.b hd ht (fun h => kt h H locs ls hP hS hl) (fun h => kf h H locs ls hP hS hl)
theorem zr_if_lt (C : ZC p s m args meth c cc own nL D cy L K N F G) {x : Int32} {off : Int} {tgt : Nat} (ht : (pc : Int) + off = (tgt : Int)) (hd : decode cc pc = .ok (.ifCond .lt off, 3)) (kt : x < 0 → ZW p l e R s m args below meth c nL D cy L K N F G cells slots Q I A tgt lv st) (kf : ¬ x < 0 → ZW p l e R s m args below meth c nL D cy L K N F G cells slots Q I A (pc + 3) lv st) : ZW p l e R s m args below meth c nL D cy L K N F G cells slots Q I A pc lv (.int x :: st) := by
  intro H locs ls hP hS hl
  exact lv_if_lt C.x C.b hd ht (fun h => kt h H locs ls hP hS hl) (fun h => kf h H locs ls hP hS hl)
theorem zr_if_ge (C : ZC p s m args meth c cc own nL D cy L K N F G) {x : Int32} {off : Int} {tgt : Nat} (ht : (pc : Int) + off = (tgt : Int)) (hd : decode cc pc = .ok (.ifCond .ge off, 3)) (kt : 0 ≤ x → ZW p l e R s m args below meth c nL D cy L K N F G cells slots Q I A tgt lv st) (kf : ¬ 0 ≤ x → ZW p l e R s m args below meth c nL D cy L K N F G cells slots Q I A (pc + 3) lv st) : ZW p l e R s m args below meth c nL D cy L K N F G cells slots Q I A pc lv (.int x :: st) := by
  intro H locs ls hP hS hl
  exact lv_if_ge C.x C.b hd ht (fun h => kt h H locs ls hP hS hl) (fun h => kf h H locs ls hP hS hl)
theorem zr_if_gt (C : ZC p s m args meth c cc own nL D cy L K N F G) {x : Int32} {off : Int} {tgt : Nat} (ht : (pc : Int) + off = (tgt : Int)) (hd : decode cc pc = .ok (.ifCond .gt off, 3)) (kt : 0 < x → ZW p l e R s m args below meth c nL D cy L K N F G cells slots Q I A tgt lv st) (kf : ¬ 0 < x → ZW p l e R s m args below meth c nL D cy L K N F G cells slots Q I A (pc + 3) lv st) : ZW p l e R s m args below meth c nL D cy L K N F G cells slots Q I A pc lv (.int x :: st) := by
  intro H locs ls hP hS hl
  exact lv_if_gt C.x C.b hd ht (fun h => kt h H locs ls hP hS hl) (fun h => kf h H locs ls hP hS hl)
theorem zr_if_le (C : ZC p s m args meth c cc own nL D cy L K N F G) {x : Int32} {off : Int} {tgt : Nat} (ht : (pc : Int) + off = (tgt : Int)) (hd : decode cc pc = .ok (.ifCond .le off, 3)) (kt : x ≤ 0 → ZW p l e R s m args below meth c nL D cy L K N F G cells slots Q I A tgt lv st) (kf : ¬ x ≤ 0 → ZW p l e R s m args below meth c nL D cy L K N F G cells slots Q I A (pc + 3) lv st) : ZW p l e R s m args below meth c nL D cy L K N F G cells slots Q I A pc lv (.int x :: st) := by
  intro H locs ls hP hS hl
  exact lv_if_le C.x C.b hd ht (fun h => kt h H locs ls hP hS hl) (fun h => kf h H locs ls hP hS hl)
theorem zr_icmp_eq (C : ZC p s m args meth c cc own nL D cy L K N F G) {x y : Int32} {off : Int} {tgt : Nat} (ht : (pc : Int) + off = (tgt : Int)) (hd : decode cc pc = .ok (.if_icmp .eq off, 3)) (kt : x = y → ZW p l e R s m args below meth c nL D cy L K N F G cells slots Q I A tgt lv st) (kf : ¬ x = y → ZW p l e R s m args below meth c nL D cy L K N F G cells slots Q I A (pc + 3) lv st) : ZW p l e R s m args below meth c nL D cy L K N F G cells slots Q I A pc lv (.int y :: .int x :: st) := by
  intro H locs ls hP hS hl
  exact lv_icmp_eq C.x C.b hd ht (fun h => kt h H locs ls hP hS hl) (fun h => kf h H locs ls hP hS hl)
theorem zr_icmp_ne (C : ZC p s m args meth c cc own nL D cy L K N F G) {x y : Int32} {off : Int} {tgt : Nat} (ht : (pc : Int) + off = (tgt : Int)) (hd : decode cc pc = .ok (.if_icmp .ne off, 3)) (kt : ¬ x = y → ZW p l e R s m args below meth c nL D cy L K N F G cells slots Q I A tgt lv st) (kf : x = y → ZW p l e R s m args below meth c nL D cy L K N F G cells slots Q I A (pc + 3) lv st) : ZW p l e R s m args below meth c nL D cy L K N F G cells slots Q I A pc lv (.int y :: .int x :: st) := by
  intro H locs ls hP hS hl
  exact lv_icmp_ne C.x C.b hd ht (fun h => kt h H locs ls hP hS hl) (fun h => kf h H locs ls hP hS hl)
theorem zr_icmp_lt (C : ZC p s m args meth c cc own nL D cy L K N F G) {x y : Int32} {off : Int} {tgt : Nat} (ht : (pc : Int) + off = (tgt : Int)) (hd : decode cc pc = .ok (.if_icmp .lt off, 3)) (kt : x < y → ZW p l e R s m args below meth c nL D cy L K N F G cells slots Q I A tgt lv st) (kf : ¬ x < y → ZW p l e R s m args below meth c nL D cy L K N F G cells slots Q I A (pc + 3) lv st) : ZW p l e R s m args below meth c nL D cy L K N F G cells slots Q I A pc lv (.int y :: .int x :: st) := by
  intro H locs ls hP hS hl
  exact lv_icmp_lt C.x C.b hd ht (fun h => kt h H locs ls hP hS hl) (fun h => kf h H locs ls hP hS hl)
theorem zr_icmp_ge (C : ZC p s m args meth c cc own nL D cy L K N F G) {x y : Int32} {off : Int} {tgt : Nat} (ht : (pc : Int) + off = (tgt : Int)) (hd : decode cc pc = .ok (.if_icmp .ge off, 3)) (kt : y ≤ x → ZW p l e R s m args below meth c nL D cy L K N F G cells slots Q I A tgt lv st) (kf : ¬ y ≤ x → ZW p l e R s m args below meth c nL D cy L K N F G cells slots Q I A (pc + 3) lv st) : ZW p l e R s m args below meth c nL D cy L K N F G cells slots Q I A pc lv (.int y :: .int x :: st) := by
  intro H locs ls hP hS hl
  exact lv_icmp_ge C.x C.b hd ht (fun h => kt h H locs ls hP hS hl) (fun h => kf h H locs ls hP hS hl)
theorem zr_icmp_gt (C : ZC p s m args meth c cc own nL D cy L K N F G) {x y : Int32} {off : Int} {tgt : Nat} (ht : (pc : Int) + off = (tgt : Int)) (hd : decode cc pc = .ok (.if_icmp .gt off, 3)) (kt : y < x → ZW p l e R s m args below meth c nL D cy L K N F G cells slots Q I A tgt lv st) (kf : ¬ y < x → ZW p l e R s m args below meth c nL D cy L K N F G cells slots Q I A (pc + 3) lv st) : ZW p l e R s m args below meth c nL D cy L K N F G cells slots Q I A pc lv (.int y :: .int x :: st) := by
  intro H locs ls hP hS hl
  exact lv_icmp_gt C.x C.b hd ht (fun h => kt h H locs ls hP hS hl) (fun h => kf h H locs ls hP hS hl)
theorem zr_icmp_le (C : ZC p s m args meth c cc own nL D cy L K N F G) {x y : Int32} {off : Int} {tgt : Nat} (ht : (pc : Int) + off = (tgt : Int)) (hd : decode cc pc = .ok (.if_icmp .le off, 3)) (kt : x ≤ y → ZW p l e R s m args below meth c nL D cy L K N F G cells slots Q I A tgt lv st) (kf : ¬ x ≤ y → ZW p l e R s m args below meth c nL D cy L K N F G cells slots Q I A (pc + 3) lv st) : ZW p l e R s m args below meth c nL D cy L K N F G cells slots Q I A pc lv (.int y :: .int x :: st) := by
  intro H locs ls hP hS hl
  exact lv_icmp_le C.x C.b hd ht (fun h => kt h H locs ls hP hS hl) (fun h => kf h H locs ls hP hS hl)
theorem zr_goto (C : ZC p s m args meth c cc own nL D cy L K N F G) {off : Int} {tgt : Nat} (ht : (pc : Int) + off = (tgt : Int)) (hd : decode cc pc = .ok (.goto off, 3)) (kk : ZW p l e R s m args below meth c nL D cy L K N F G cells slots Q I A tgt lv st) : ZW p l e R s m args below meth c nL D cy L K N F G cells slots Q I A pc lv st := by
  intro H locs ls hP hS hl
  exact lv_goto C.x C.b hd ht (kk H locs ls hP hS hl)
theorem zr_tableOut (C : ZC p s m args meth c cc own nL D cy L K N F G) {dflt lo hi : Int} {offs : Array Int} {len : Nat} {x : Int32} {tgt : Nat} (h : x.toInt < lo ∨ hi < x.toInt) (ht : (pc : Int) + dflt = (tgt : Int)) (hd : decode cc pc = .ok (.tableswitch dflt lo hi offs, len)) (kk : ZW p l e R s m args below meth c nL D cy L K N F G cells slots Q I A tgt lv st) : ZW p l e R s m args below meth c nL D cy L K N F G cells slots Q I A pc lv (.int x :: st) := by
  intro H locs ls hP hS hl
  exact lv_tableOut C.x C.b hd h ht (kk H locs ls hP hS hl)
theorem zr_tableIn (C : ZC p s m args meth c cc own nL D cy L K N F G) {dflt lo hi : Int} {offs : Array Int} {len : Nat} {x : Int32} {off : Int} {tgt : Nat} (h1 : ¬ x.toInt < lo) (h2 : ¬ hi < x.toInt) (ho : offs[(x.toInt - lo).toNat]? = some off) (ht : (pc : Int) + off = (tgt : Int)) (hd : decode cc pc = .ok (.tableswitch dflt lo hi offs, len)) (kk : ZW p l e R s m args below meth c nL D cy L K N F G cells slots Q I A tgt lv st) : ZW p l e R s m args below meth c nL D cy L K N F G cells slots Q I A pc lv (.int x :: st) := by
  intro H locs ls hP hS hl
  exact lv_tableIn C.x C.b hd h1 h2 ho ht (kk H locs ls hP hS hl)
theorem zr_get (C : ZC p s m args meth c cc own nL D cy L K N F G) {cn : String} {T : u_T} {Nf ci k : Nat} {a : Nat} {v : Value} {idx : Nat} (hk : K a = ci) (h6 : ci < 6) (hc : vwCl[ci]? = some (cn, T, Nf)) (hin : ∀ w ∈ u_ws cn T Nf, w ∈ zW) (hkN : k < Nf) (hlk : Cond.fieldLink own idx (T k).1 (T k).2.1 (T k).2.2.1 ∈ zW) (hv : (zF ci F I a)[k]? = some v) (hd : decode cc pc = .ok (.getfield idx, 3)) (kk : ZW p l e R s m args below meth c nL D cy L K N F G cells slots Q I A (pc + 3) lv (v :: st)) : ZW p l e R s m args below meth c nL D cy L K N F G cells slots Q I A pc lv (.ref a :: st) := by
  intro H locs ls hP hS hl
  obtain ⟨q0, hq⟩ := z_getk (f := zM cy K N F G I A) (zl_in C.z hk (by omega))
  have he : zM cy K N F G I A a = .inr (ci, zF ci F I a) := by simp only [zM, hk, if_pos h6]
  rw [he] at hq
  exact va_get C.x C.b C.w hin C.o C.k hP q0 hq hc k hkN (C.w _ hlk) (fun _ h => h) hv hd (kk H locs ls hP hS hl)
theorem zr_put (C : ZC p s m args meth c cc own nL D cy L K N F G) {cn : String} {T : u_T} {Nf ci k : Nat} {a : Nat} {v : Int32} {idx : Nat} {ty : FieldType} (ty0 : Nat → FieldType) (hk : K a = ci) (h6 : ci < 6) (hc : vwCl[ci]? = some (cn, T, Nf)) (hin : ∀ w ∈ u_ws cn T Nf, w ∈ zW) (hty : ∀ k, k < Nf → parseFieldDescriptor (T k).2.2.1 = some (ty0 k)) (hnm : ∀ a, a < Nf → ∀ b, b < Nf → a ≠ b → (T a).2.1 ≠ (T b).2.1) (hkN : k < Nf) (hlk : Cond.fieldLink own idx (T k).1 (T k).2.1 (T k).2.2.1 ∈ zW) (hfin : (T k).2.2.2 = false) (hpd : parseFieldDescriptor (T k).2.2.1 = some ty) (hn : narrow ty (.int v) = .int v) (hfit : fits ty (.int v) = true) (hlen : k < (zF ci F I a).length) (hset : (zF ci F I a).set k (.int v) = zF ci F (up2 I a k v) a) (hd : decode cc pc = .ok (.putfield idx, 3)) (kk : ZW p l e R s m args below meth c nL D cy L K N F G cells slots Q (up2 I a k v) A (pc + 3) lv st) : ZW p l e R s m args below meth c nL D cy L K N F G cells slots Q I A pc lv (.int v :: .ref a :: st) := by
  intro H locs ls hP hS hl
  have hL := zl_in C.z hk (by omega)
  obtain ⟨q0, hq⟩ := z_getk (f := zM cy K N F G I A) hL
  have he : zM cy K N F G I A a = .inr (ci, zF ci F I a) := by simp only [zM, hk, if_pos h6]
  have hq2 := hq
  rw [he] at hq2
  refine va_put C.x C.b C.w hin ty0 hty hnm C.o C.k hP (C.d _) hS q0 hq2 hc k hkN (C.w _ hlk) (fun _ h => h) hfin hpd hn hfit hlen hd (fun H1 locs1 hP1 hD1 hS1 => ?_)
  rw [hset, z_set (C.d _) hL hq (g := zM cy K N F G (up2 I a k v) A) (fun b => z_upI cy hk h6 b)] at hP1
  exact kk H1 locs1 ls hP1 hS1 hl
theorem zr_iald (C : ZC p s m args meth c cc own nL D cy L K N F G) {a n : Nat} {i : Int32} (hk : K a = 6) (hn : N a = n) (hin : vp_in i n) (hd : decode cc pc = .ok (.iaload, 1)) (kk : ZW p l e R s m args below meth c nL D cy L K N F G cells slots Q I A (pc + 1) lv (.int (A a i.toNatClampNeg) :: st)) : ZW p l e R s m args below meth c nL D cy L K N F G cells slots Q I A pc lv (.int i :: .ref a :: st) := by
  intro H locs ls hP hS hl
  obtain ⟨q0, hq⟩ := z_getk (f := zM cy K N F G I A) (zl_in C.z hk (by omega))
  have he : zM cy K N F G I A a = .inl (cy 6, N a, .inl (A a)) := by simp [zM, hk]
  rw [he, hn] at hq
  exact va_iald C.x C.b C.k hP q0 0 hq rfl hin hd (kk H locs ls hP hS hl)
theorem zr_iast (C : ZC p s m args meth c cc own nL D cy L K N F G) {a n : Nat} {i x : Int32} (hk : K a = 6) (hn : N a = n) (hin : vp_in i n) (hd : decode cc pc = .ok (.iastore, 1)) (kk : ZW p l e R s m args below meth c nL D cy L K N F G cells slots Q I (up2 A a i.toNatClampNeg x) (pc + 1) lv st) : ZW p l e R s m args below meth c nL D cy L K N F G cells slots Q I A pc lv (.int x :: .int i :: .ref a :: st) := by
  intro H locs ls hP hS hl
  have hL := zl_in C.z hk (by omega)
  obtain ⟨q0, hq⟩ := z_getk (f := zM cy K N F G I A) hL
  have he : zM cy K N F G I A a = .inl (cy 6, N a, .inl (A a)) := by simp [zM, hk]
  have hq2 := hq
  rw [he, hn] at hq2
  refine va_iast C.x C.b C.k hP (C.d _) hS q0 0 hq2 rfl hin hd (fun H1 locs1 hP1 hD1 hS1 => ?_)
  rw [z_set (C.d _) hL hq (g := zM cy K N F G I (up2 A a i.toNatClampNeg x)) (fun b => z_upA cy hk hn b)] at hP1
  exact kk H1 locs1 ls hP1 hS1 hl
theorem zr_ald7 (C : ZC p s m args meth c cc own nL D cy L K N F G) {a n : Nat} {i : Int32} (hk : K a = 7) (hn : N a = n) (hin : vp_in i n) (hd : decode cc pc = .ok (.aaload, 1)) (kk : ZW p l e R s m args below meth c nL D cy L K N F G cells slots Q I A (pc + 1) lv (.ref (G a i.toNatClampNeg) :: st)) : ZW p l e R s m args below meth c nL D cy L K N F G cells slots Q I A pc lv (.int i :: .ref a :: st) := by
  intro H locs ls hP hS hl
  obtain ⟨q0, hq⟩ := z_getk (f := zM cy K N F G I A) (zl_in C.z hk (by omega))
  have he : zM cy K N F G I A a = .inl (cy 7, N a, .inr (.inr (.inr (.inr (fun j => some (G a j)))))) := by simp [zM, hk]
  rw [he, hn] at hq
  exact va_aldq C.x C.b C.k hP q0 1 hq rfl hin hd (kk H locs ls hP hS hl)
theorem zr_ald8 (C : ZC p s m args meth c cc own nL D cy L K N F G) {a n : Nat} {i : Int32} (hk : K a = 8) (hn : N a = n) (hin : vp_in i n) (hd : decode cc pc = .ok (.aaload, 1)) (kk : ZW p l e R s m args below meth c nL D cy L K N F G cells slots Q I A (pc + 1) lv (.ref (G a i.toNatClampNeg) :: st)) : ZW p l e R s m args below meth c nL D cy L K N F G cells slots Q I A pc lv (.int i :: .ref a :: st) := by
  intro H locs ls hP hS hl
  obtain ⟨q0, hq⟩ := z_getk (f := zM cy K N F G I A) (zl_in C.z hk (by omega))
  have he : zM cy K N F G I A a = .inl (cy 8, N a, .inr (.inr (.inr (.inr (fun j => some (G a j)))))) := by simp [zM, hk]
  rw [he, hn] at hq
  exact va_aldq C.x C.b C.k hP q0 2 hq rfl hin hd (kk H locs ls hP hS hl)
theorem zr_ald9 (C : ZC p s m args meth c cc own nL D cy L K N F G) {a n : Nat} {i : Int32} (hk : K a = 9) (hn : N a = n) (hin : vp_in i n) (hd : decode cc pc = .ok (.aaload, 1)) (kk : ZW p l e R s m args below meth c nL D cy L K N F G cells slots Q I A (pc + 1) lv (.ref (G a i.toNatClampNeg) :: st)) : ZW p l e R s m args below meth c nL D cy L K N F G cells slots Q I A pc lv (.int i :: .ref a :: st) := by
  intro H locs ls hP hS hl
  obtain ⟨q0, hq⟩ := z_getk (f := zM cy K N F G I A) (zl_in C.z hk (by omega))
  have he : zM cy K N F G I A a = .inl (cy 9, N a, .inr (.inr (.inr (.inr (fun j => some (G a j)))))) := by simp [zM, hk]
  rw [he, hn] at hq
  exact va_aldq C.x C.b C.k hP q0 3 hq rfl hin hd (kk H locs ls hP hS hl)
theorem zr_ald10 (C : ZC p s m args meth c cc own nL D cy L K N F G) {a n : Nat} {i : Int32} (hk : K a = 10) (hn : N a = n) (hin : vp_in i n) (hd : decode cc pc = .ok (.aaload, 1)) (kk : ZW p l e R s m args below meth c nL D cy L K N F G cells slots Q I A (pc + 1) lv (.ref (G a i.toNatClampNeg) :: st)) : ZW p l e R s m args below meth c nL D cy L K N F G cells slots Q I A pc lv (.int i :: .ref a :: st) := by
  intro H locs ls hP hS hl
  obtain ⟨q0, hq⟩ := z_getk (f := zM cy K N F G I A) (zl_in C.z hk (by omega))
  have he : zM cy K N F G I A a = .inl (cy 10, N a, .inr (.inr (.inr (.inr (fun j => some (G a j)))))) := by simp [zM, hk]
  rw [he, hn] at hq
  exact va_aldqA C.x C.b C.k hP q0 4 hq rfl hin hd (kk H locs ls hP hS hl)
theorem zr_min (C : ZC p s m args meth c cc own nL D cy L K N F G) {idx : Nat} {x y : Int32} (h1 : Cond.methodLink own idx Lib.Math.min.name ∈ zW) (h2 : Cond.static Lib.Math.min.name ∈ zW) (h3 : Cond.initialized "java/lang/Math" ∈ zW) (h4 : Cond.code Lib.Math.min.name Lib.Math.min.code 2 (some .int) ∈ zW) (hf : 1 ≤ R.frames) (hlo : (st.map fun v => v.category).sum + 13 ≤ R.locals) (hcs : cells ≤ R.cells ∧ slots ≤ R.slots) (hd : decode cc pc = .ok (.invokestatic idx, 3)) (kk : ZW p l e R s m args below meth c nL D cy L K N F G cells slots Q I A (pc + 3) lv (.int (if y < x then y else x) :: st)) : ZW p l e R s m args below meth c nL D cy L K N F G cells slots Q I A pc lv (.int y :: .int x :: st) := by
  intro H locs ls hP hS hl
  exact va_mmin C.x C.b (C.ml.trans hl.1.symm) C.o (C.w _ h1) (C.w _ h2) (C.w _ h3) (C.w _ h4) hf hlo hcs.1 hcs.2 hd (kk H locs ls hP hS hl)
theorem zr_callVi (C : ZC p s m args meth c cc own nL D cy L K N F G) {y : MethodName} {bytes : ByteArray} {maxL n idx : Nat} {rm : Room} {As : List Value} {st0 : List Value} {rt : Option FieldType} {r : Int32} {a ci Nf : Nat} {T : u_T} (hM : ZMi l y bytes maxL rt rm D cy L K N F G (.ref a :: As) I A r I' A') (w1 : Cond.methodLink own idx y ∈ zW) (w2 : Cond.instanceMethod y ∈ zW) (w3 : Cond.selects y.cls y y ∈ zW) (w4 : Cond.initialized y.cls ∈ zW) (w5 : Cond.code y bytes maxL rt ∈ zW) (hd0 : y.cls ≠ "java/lang/invoke/MethodHandle" ∧ y.cls ≠ "java/lang/invoke/VarHandle" ∧ (parseMethodDescriptor y.desc).map (fun d => d.parameters.length) = some n) (hR : rm.frames + 1 ≤ R.frames ∧ 8 + (maxL + 11) + rm.locals ≤ R.locals) (hrc : rm.cells = 0) (hrs : rm.slots = 0) (hcs : cells ≤ R.cells ∧ slots ≤ R.slots) (hk : K a = ci) (h6 : ci < 6) (hc : vwCl[ci]? = some (y.cls, T, Nf)) (hn : As.length = n) (hst : st0 = As.reverse ++ .ref a :: st) (hW : (st.map fun v => v.category).sum ≤ 8) (hd : decode cc pc = .ok (.invokevirtual idx, 3)) (kk : ZW p l e R s m args below meth c nL D cy L K N F G cells slots Q I' A' (pc + 3) lv (.int r :: st)) : ZW p l e R s m args below meth c nL D cy L K N F G cells slots Q I A pc lv st0 := by
  intro H locs ls hP hS hl
  obtain ⟨q0, hq⟩ := z_getk (f := zM cy K N F G I A) (zl_in C.z hk (by omega))
  have he : zM cy K N F G I A a = .inr (ci, zF ci F I a) := by simp only [zM, hk, if_pos h6]
  rw [he] at hq
  refine va_calli (va_runV (As := As) (rest := st) ⟨C.x, C.b, C.ml, C.o, C.w⟩ (hM H.size) (cwV n C.w (zGV w1 w2 w3 w4 w5) rfl hrc hrs ⟨rfl, hd0⟩ hR) ⟨zPre.blind, va_recv C.k hP hc hq, fun U hU hW => ⟨rfl, by rw [hU], by rw [hU]; exact hP, va_K.moved hW.alike C.k, zNb.warm hW C.nb⟩⟩ rfl hn hl.1 hst (lv_room hW) hd hcs) hS (fun q _ h => z_free hS q h) (z_free hS) (fun x u t H1 locs1 ht hvm hw hB hz1 hk1 hS1 => ?_)
  rw [show zPost D cy L K N F G I' A' t = va_P D vwCl (va_pl L (zM cy K N F G I' A')) t.heap from rfl, ht] at hB
  subst hw
  exact kk H1 locs1 ls hB hS1 hl
theorem zr_callSi (C : ZC p s m args meth c cc own nL D cy L K N F G) {y : MethodName} {bytes : ByteArray} {maxL n idx : Nat} {rm : Room} {As : List Value} {st0 : List Value} {rt : Option FieldType} {r : Int32} (hM : ZMi l y bytes maxL rt rm D cy L K N F G As I A r I' A') (w1 : Cond.methodLink own idx y ∈ zW) (w2 : Cond.static y ∈ zW) (w4 : Cond.initialized y.cls ∈ zW) (w5 : Cond.code y bytes maxL rt ∈ zW) (hd0 : y.cls ≠ "java/lang/invoke/MethodHandle" ∧ y.cls ≠ "java/lang/invoke/VarHandle" ∧ (parseMethodDescriptor y.desc).map (fun d => d.parameters.length) = some n) (hR : rm.frames + 1 ≤ R.frames ∧ 8 + (maxL + 11) + rm.locals ≤ R.locals) (hrc : rm.cells = 0) (hrs : rm.slots = 0) (hcs : cells ≤ R.cells ∧ slots ≤ R.slots) (hn : As.length = n) (hst : st0 = As.reverse ++ st) (hW : (st.map fun v => v.category).sum ≤ 8) (hd : decode cc pc = .ok (.invokestatic idx, 3)) (kk : ZW p l e R s m args below meth c nL D cy L K N F G cells slots Q I' A' (pc + 3) lv (.int r :: st)) : ZW p l e R s m args below meth c nL D cy L K N F G cells slots Q I A pc lv st0 := by
  intro H locs ls hP hS hl
  refine va_calli (va_runS (As := As) (rest := st) ⟨C.x, C.b, C.ml, C.o, C.w⟩ (hM H.size) (va_cwS n C.w (zGS w1 w2 w4 w5) rfl hrc hrs hd0 hR) ⟨zPre.blind, fun U hU hW => ⟨rfl, by rw [hU], by rw [hU]; exact hP, va_K.moved hW.alike C.k, zNb.warm hW C.nb⟩⟩ rfl hn hl.1 hst (lv_room hW) hd hcs) hS (fun q _ h => z_free hS q h) (z_free hS) (fun x u t H1 locs1 ht hvm hw hB hz1 hk1 hS1 => ?_)
  rw [show zPost D cy L K N F G I' A' t = va_P D vwCl (va_pl L (zM cy K N F G I' A')) t.heap from rfl, ht] at hB
  subst hw
  exact kk H1 locs1 ls hB hS1 hl
theorem zr_callNi (C : ZC p s m args meth c cc own nL D cy L K N F G) {y : MethodName} {bytes : ByteArray} {maxL n idx : Nat} {rm : Room} {As : List Value} {st0 : List Value} {rt : Option FieldType} {r : Int32} {host : String} (hM : ZMi l y bytes maxL rt rm D cy L K N F G As I A r I' A') (w1 : va_Nw (.methodLinkNest own idx y host) s) (w2 : Cond.static y ∈ zW) (w4 : Cond.initialized y.cls ∈ zW) (w5 : Cond.code y bytes maxL rt ∈ zW) (hd0 : y.cls ≠ "java/lang/invoke/MethodHandle" ∧ y.cls ≠ "java/lang/invoke/VarHandle" ∧ (parseMethodDescriptor y.desc).map (fun d => d.parameters.length) = some n) (hR : rm.frames + 1 ≤ R.frames ∧ 8 + (maxL + 11) + rm.locals ≤ R.locals) (hrc : rm.cells = 0) (hrs : rm.slots = 0) (hcs : cells ≤ R.cells ∧ slots ≤ R.slots) (hn : As.length = n) (hst : st0 = As.reverse ++ st) (hW : (st.map fun v => v.category).sum ≤ 8) (hd : decode cc pc = .ok (.invokestatic idx, 3)) (kk : ZW p l e R s m args below meth c nL D cy L K N F G cells slots Q I' A' (pc + 3) lv (.int r :: st)) : ZW p l e R s m args below meth c nL D cy L K N F G cells slots Q I A pc lv st0 := by
  intro H locs ls hP hS hl
  refine va_calli (va_runSN (As := As) (rest := st) ⟨C.x, C.b, C.ml, C.o, C.w⟩ (hM H.size) ⟨va_cnB n C.w (zGood w5) rfl hrc hrs w1 (C.w _ w4) hd0 hR, C.w _ w2, trivial⟩ ⟨zPre.blind, fun U hU hW => ⟨rfl, by rw [hU], by rw [hU]; exact hP, va_K.moved hW.alike C.k, zNb.warm hW C.nb⟩⟩ rfl hn hl.1 hst (lv_room hW) hd hcs) hS (fun q _ h => z_free hS q h) (z_free hS) (fun x u t H1 locs1 ht hvm hw hB hz1 hk1 hS1 => ?_)
  rw [show zPost D cy L K N F G I' A' t = va_P D vwCl (va_pl L (zM cy K N F G I' A')) t.heap from rfl, ht] at hB
  subst hw
  exact kk H1 locs1 ls hB hS1 hl
theorem zr_callVl (C : ZC p s m args meth c cc own nL D cy L K N F G) {y : MethodName} {bytes : ByteArray} {maxL n idx : Nat} {rm : Room} {As : List Value} {st0 : List Value} {rt : Option FieldType} {r : Int64} {a ci Nf : Nat} {T : u_T} (hM : ZMl l y bytes maxL rt rm D cy L K N F G (.ref a :: As) I A r I' A') (w1 : Cond.methodLink own idx y ∈ zW) (w2 : Cond.instanceMethod y ∈ zW) (w3 : Cond.selects y.cls y y ∈ zW) (w4 : Cond.initialized y.cls ∈ zW) (w5 : Cond.code y bytes maxL rt ∈ zW) (hd0 : y.cls ≠ "java/lang/invoke/MethodHandle" ∧ y.cls ≠ "java/lang/invoke/VarHandle" ∧ (parseMethodDescriptor y.desc).map (fun d => d.parameters.length) = some n) (hR : rm.frames + 1 ≤ R.frames ∧ 8 + (maxL + 11) + rm.locals ≤ R.locals) (hrc : rm.cells = 0) (hrs : rm.slots = 0) (hcs : cells ≤ R.cells ∧ slots ≤ R.slots) (hk : K a = ci) (h6 : ci < 6) (hc : vwCl[ci]? = some (y.cls, T, Nf)) (hn : As.length = n) (hst : st0 = As.reverse ++ .ref a :: st) (hW : (st.map fun v => v.category).sum ≤ 8) (hd : decode cc pc = .ok (.invokevirtual idx, 3)) (kk : ZW p l e R s m args below meth c nL D cy L K N F G cells slots Q I' A' (pc + 3) lv (.long r :: st)) : ZW p l e R s m args below meth c nL D cy L K N F G cells slots Q I A pc lv st0 := by
  intro H locs ls hP hS hl
  obtain ⟨q0, hq⟩ := z_getk (f := zM cy K N F G I A) (zl_in C.z hk (by omega))
  have he : zM cy K N F G I A a = .inr (ci, zF ci F I a) := by simp only [zM, hk, if_pos h6]
  rw [he] at hq
  refine va_calll (va_runV (As := As) (rest := st) ⟨C.x, C.b, C.ml, C.o, C.w⟩ (hM H.size) (cwV n C.w (zGV w1 w2 w3 w4 w5) rfl hrc hrs ⟨rfl, hd0⟩ hR) ⟨zPre.blind, va_recv C.k hP hc hq, fun U hU hW => ⟨rfl, by rw [hU], by rw [hU]; exact hP, va_K.moved hW.alike C.k, zNb.warm hW C.nb⟩⟩ rfl hn hl.1 hst (lv_room hW) hd hcs) hS (fun q _ h => z_free hS q h) (z_free hS) (fun x u t H1 locs1 ht hvm hw hB hz1 hk1 hS1 => ?_)
  rw [show zPost D cy L K N F G I' A' t = va_P D vwCl (va_pl L (zM cy K N F G I' A')) t.heap from rfl, ht] at hB
  subst hw
  exact kk H1 locs1 ls hB hS1 hl
theorem zr_callSl (C : ZC p s m args meth c cc own nL D cy L K N F G) {y : MethodName} {bytes : ByteArray} {maxL n idx : Nat} {rm : Room} {As : List Value} {st0 : List Value} {rt : Option FieldType} {r : Int64} (hM : ZMl l y bytes maxL rt rm D cy L K N F G As I A r I' A') (w1 : Cond.methodLink own idx y ∈ zW) (w2 : Cond.static y ∈ zW) (w4 : Cond.initialized y.cls ∈ zW) (w5 : Cond.code y bytes maxL rt ∈ zW) (hd0 : y.cls ≠ "java/lang/invoke/MethodHandle" ∧ y.cls ≠ "java/lang/invoke/VarHandle" ∧ (parseMethodDescriptor y.desc).map (fun d => d.parameters.length) = some n) (hR : rm.frames + 1 ≤ R.frames ∧ 8 + (maxL + 11) + rm.locals ≤ R.locals) (hrc : rm.cells = 0) (hrs : rm.slots = 0) (hcs : cells ≤ R.cells ∧ slots ≤ R.slots) (hn : As.length = n) (hst : st0 = As.reverse ++ st) (hW : (st.map fun v => v.category).sum ≤ 8) (hd : decode cc pc = .ok (.invokestatic idx, 3)) (kk : ZW p l e R s m args below meth c nL D cy L K N F G cells slots Q I' A' (pc + 3) lv (.long r :: st)) : ZW p l e R s m args below meth c nL D cy L K N F G cells slots Q I A pc lv st0 := by
  intro H locs ls hP hS hl
  refine va_calll (va_runS (As := As) (rest := st) ⟨C.x, C.b, C.ml, C.o, C.w⟩ (hM H.size) (va_cwS n C.w (zGS w1 w2 w4 w5) rfl hrc hrs hd0 hR) ⟨zPre.blind, fun U hU hW => ⟨rfl, by rw [hU], by rw [hU]; exact hP, va_K.moved hW.alike C.k, zNb.warm hW C.nb⟩⟩ rfl hn hl.1 hst (lv_room hW) hd hcs) hS (fun q _ h => z_free hS q h) (z_free hS) (fun x u t H1 locs1 ht hvm hw hB hz1 hk1 hS1 => ?_)
  rw [show zPost D cy L K N F G I' A' t = va_P D vwCl (va_pl L (zM cy K N F G I' A')) t.heap from rfl, ht] at hB
  subst hw
  exact kk H1 locs1 ls hB hS1 hl
theorem zr_callVv (C : ZC p s m args meth c cc own nL D cy L K N F G) {y : MethodName} {bytes : ByteArray} {maxL n idx : Nat} {rm : Room} {As : List Value} {st0 : List Value} {rt : Option FieldType}  {a ci Nf : Nat} {T : u_T} (hM : ZMv l y bytes maxL rt rm D cy L K N F G (.ref a :: As) I A I' A') (w1 : Cond.methodLink own idx y ∈ zW) (w2 : Cond.instanceMethod y ∈ zW) (w3 : Cond.selects y.cls y y ∈ zW) (w4 : Cond.initialized y.cls ∈ zW) (w5 : Cond.code y bytes maxL rt ∈ zW) (hd0 : y.cls ≠ "java/lang/invoke/MethodHandle" ∧ y.cls ≠ "java/lang/invoke/VarHandle" ∧ (parseMethodDescriptor y.desc).map (fun d => d.parameters.length) = some n) (hR : rm.frames + 1 ≤ R.frames ∧ 8 + (maxL + 11) + rm.locals ≤ R.locals) (hrc : rm.cells = 0) (hrs : rm.slots = 0) (hcs : cells ≤ R.cells ∧ slots ≤ R.slots) (hk : K a = ci) (h6 : ci < 6) (hc : vwCl[ci]? = some (y.cls, T, Nf)) (hn : As.length = n) (hst : st0 = As.reverse ++ .ref a :: st) (hW : (st.map fun v => v.category).sum ≤ 8) (hd : decode cc pc = .ok (.invokevirtual idx, 3)) (kk : ZW p l e R s m args below meth c nL D cy L K N F G cells slots Q I' A' (pc + 3) lv st) : ZW p l e R s m args below meth c nL D cy L K N F G cells slots Q I A pc lv st0 := by
  intro H locs ls hP hS hl
  obtain ⟨q0, hq⟩ := z_getk (f := zM cy K N F G I A) (zl_in C.z hk (by omega))
  have he : zM cy K N F G I A a = .inr (ci, zF ci F I a) := by simp only [zM, hk, if_pos h6]
  rw [he] at hq
  refine va_callv (va_runV (As := As) (rest := st) ⟨C.x, C.b, C.ml, C.o, C.w⟩ (hM H.size) (cwV n C.w (zGV w1 w2 w3 w4 w5) rfl hrc hrs ⟨rfl, hd0⟩ hR) ⟨zPre.blind, va_recv C.k hP hc hq, fun U hU hW => ⟨rfl, by rw [hU], by rw [hU]; exact hP, va_K.moved hW.alike C.k, zNb.warm hW C.nb⟩⟩ rfl hn hl.1 hst (lv_room hW) hd hcs) hS (fun q _ h => z_free hS q h) (z_free hS) (fun u t H1 locs1 ht hvm hw hB hz1 hk1 hS1 => ?_)
  rw [show zPost D cy L K N F G I' A' t = va_P D vwCl (va_pl L (zM cy K N F G I' A')) t.heap from rfl, ht] at hB
  exact kk H1 locs1 ls hB hS1 hl
theorem zr_callSv (C : ZC p s m args meth c cc own nL D cy L K N F G) {y : MethodName} {bytes : ByteArray} {maxL n idx : Nat} {rm : Room} {As : List Value} {st0 : List Value} {rt : Option FieldType}  (hM : ZMv l y bytes maxL rt rm D cy L K N F G As I A I' A') (w1 : Cond.methodLink own idx y ∈ zW) (w2 : Cond.static y ∈ zW) (w4 : Cond.initialized y.cls ∈ zW) (w5 : Cond.code y bytes maxL rt ∈ zW) (hd0 : y.cls ≠ "java/lang/invoke/MethodHandle" ∧ y.cls ≠ "java/lang/invoke/VarHandle" ∧ (parseMethodDescriptor y.desc).map (fun d => d.parameters.length) = some n) (hR : rm.frames + 1 ≤ R.frames ∧ 8 + (maxL + 11) + rm.locals ≤ R.locals) (hrc : rm.cells = 0) (hrs : rm.slots = 0) (hcs : cells ≤ R.cells ∧ slots ≤ R.slots) (hn : As.length = n) (hst : st0 = As.reverse ++ st) (hW : (st.map fun v => v.category).sum ≤ 8) (hd : decode cc pc = .ok (.invokestatic idx, 3)) (kk : ZW p l e R s m args below meth c nL D cy L K N F G cells slots Q I' A' (pc + 3) lv st) : ZW p l e R s m args below meth c nL D cy L K N F G cells slots Q I A pc lv st0 := by
  intro H locs ls hP hS hl
  refine va_callv (va_runS (As := As) (rest := st) ⟨C.x, C.b, C.ml, C.o, C.w⟩ (hM H.size) (va_cwS n C.w (zGS w1 w2 w4 w5) rfl hrc hrs hd0 hR) ⟨zPre.blind, fun U hU hW => ⟨rfl, by rw [hU], by rw [hU]; exact hP, va_K.moved hW.alike C.k, zNb.warm hW C.nb⟩⟩ rfl hn hl.1 hst (lv_room hW) hd hcs) hS (fun q _ h => z_free hS q h) (z_free hS) (fun u t H1 locs1 ht hvm hw hB hz1 hk1 hS1 => ?_)
  rw [show zPost D cy L K N F G I' A' t = va_P D vwCl (va_pl L (zM cy K N F G I' A')) t.heap from rfl, ht] at hB
  exact kk H1 locs1 ls hB hS1 hl
theorem zr_iret (C : ZC p s m args meth c cc own nL D cy L K N F G) {r : Int32} (hr : meth.sig.returnType = some .int) (hd : decode cc pc = .ok (.ireturn, 1)) : ZW p l e R s m args below meth c nL D cy L K N F G cells slots (MQ below (va_Qi (fun x (_ : Unit) => x = r) (fun _ t => zPost D cy L K N F G I A t) (zA L s.heap.size)) args s cells slots (zA L s.heap.size)) I A pc lv [.int r] := by
  intro H locs ls hP hS hl
  exact W.iret C.x C.b hr (fun t ht hW => ⟨⟨r, (), rfl, rfl, (show va_P D vwCl (va_pl L (zM cy K N F G I A)) t.heap by rw [ht]; exact hP)⟩, hS.F ht⟩) hS.2.2 hd C.lk
theorem zr_lret (C : ZC p s m args meth c cc own nL D cy L K N F G) {r : Int64} (hr : meth.sig.returnType = some .long) (hd : decode cc pc = .ok (.lreturn, 1)) : ZW p l e R s m args below meth c nL D cy L K N F G cells slots (MQ below (va_Ql (fun x (_ : Unit) => x = r) (fun _ t => zPost D cy L K N F G I A t) (zA L s.heap.size)) args s cells slots (zA L s.heap.size)) I A pc lv [.long r] := by
  intro H locs ls hP hS hl
  exact W.lret C.x C.b hr (fun t ht hW => ⟨⟨r, (), rfl, rfl, (show va_P D vwCl (va_pl L (zM cy K N F G I A)) t.heap by rw [ht]; exact hP)⟩, hS.F ht⟩) hS.2.2 hd C.lk
theorem zr_vret (C : ZC p s m args meth c cc own nL D cy L K N F G)  (hr : meth.sig.returnType = none) (hd : decode cc pc = .ok (.return_, 1)) : ZW p l e R s m args below meth c nL D cy L K N F G cells slots (MQ below (va_Qv (fun _ : Unit => True) (fun _ t => zPost D cy L K N F G I A t) (zA L s.heap.size)) args s cells slots (zA L s.heap.size)) I A pc lv [] := by
  intro H locs ls hP hS hl
  exact W.vret C.x C.b hr (fun t ht hW => ⟨⟨(), rfl, trivial, (show va_P D vwCl (va_pl L (zM cy K N F G I A)) t.heap by rw [ht]; exact hP)⟩, hS.F ht⟩) hS.2.2 hd C.lk
theorem zr_zret (C : ZC p s m args meth c cc own nL D cy L K N F G) {r : Int32} {ty : FieldType} (hr : meth.sig.returnType = some ty) (hn : narrow ty (.int r) = .int r) (hd : decode cc pc = .ok (.ireturn, 1)) : ZW p l e R s m args below meth c nL D cy L K N F G cells slots (MQ below (va_Qi (fun x (_ : Unit) => x = r) (fun _ t => zPost D cy L K N F G I A t) (zA L s.heap.size)) args s cells slots (zA L s.heap.size)) I A pc lv [.int r] := by
  intro H locs ls hP hS hl
  exact W.zret C.x C.b hr hn (fun t ht hW => ⟨⟨r, (), rfl, rfl, (show va_P D vwCl (va_pl L (zM cy K N F G I A)) t.heap by rw [ht]; exact hP)⟩, hS.F ht⟩) hS.2.2 hd C.lk
theorem ZMi.of {y : MethodName} {ret : Option FieldType} {rm : Room} {avs : List Value} {r : Int32} (hZ : ZL L K N F G) (hrc : rm.cells = 0) (hrs : rm.slots = 0) (hy : plainName y.cls = true) (hlen : (lg_sl avs).length ≤ nL) (body : ∀ (p : Program) (e : Env) (s : State) (m : MethodId) (args : Array Value) (below : List Frame) (meth : Method) (c : Code), ZC p s m args meth c cc y.cls nL D cy L K N F G → meth.sig.returnType = ret → ZW p l e rm s m args below meth c nL D cy L K N F G 0 0 (MQ below (va_Qi (fun x (_ : Unit) => x = r) (fun _ t => zPost D cy L K N F G I' A' t) (zA L s.heap.size)) args s 0 0 (zA L s.heap.size)) I A 0 (lv_args 0 avs) []) : ZMi l y cc nL ret rm D cy L K N F G avs I A r I' A' := by
  intro sz
  refine Met.ofW (cc := cc) (maxL := nL) (ret := ret) hy rfl ?_
  intro p e s m args below meth c s₁ B hml hv
  obtain ⟨rfl, hsz, hP, hK, hNb⟩ := hv
  subst hsz
  have hts := atoms_spec (ws := .code y cc nL ret :: zW) B.pre
  have C : ZC p s m avs.toArray meth c cc y.cls nL D cy L K N F G := ⟨B.exec, B.bytes, hml, fun w h => hts w (List.mem_cons_of_mem _ h), findClass_of_methodNamed B.named, B.notSynchronized, hK, hZ, hNb⟩
  rw [lg_entry_eq]
  exact body p e s m avs.toArray below meth c C B.returns s.heap [] _ hP va_S.rf (lv_entry avs hlen)
theorem ZMl.of {y : MethodName} {ret : Option FieldType} {rm : Room} {avs : List Value} {r : Int64} (hZ : ZL L K N F G) (hrc : rm.cells = 0) (hrs : rm.slots = 0) (hy : plainName y.cls = true) (hlen : (lg_sl avs).length ≤ nL) (body : ∀ (p : Program) (e : Env) (s : State) (m : MethodId) (args : Array Value) (below : List Frame) (meth : Method) (c : Code), ZC p s m args meth c cc y.cls nL D cy L K N F G → meth.sig.returnType = ret → ZW p l e rm s m args below meth c nL D cy L K N F G 0 0 (MQ below (va_Ql (fun x (_ : Unit) => x = r) (fun _ t => zPost D cy L K N F G I' A' t) (zA L s.heap.size)) args s 0 0 (zA L s.heap.size)) I A 0 (lv_args 0 avs) []) : ZMl l y cc nL ret rm D cy L K N F G avs I A r I' A' := by
  intro sz
  refine Met.ofW (cc := cc) (maxL := nL) (ret := ret) hy rfl ?_
  intro p e s m args below meth c s₁ B hml hv
  obtain ⟨rfl, hsz, hP, hK, hNb⟩ := hv
  subst hsz
  have hts := atoms_spec (ws := .code y cc nL ret :: zW) B.pre
  have C : ZC p s m avs.toArray meth c cc y.cls nL D cy L K N F G := ⟨B.exec, B.bytes, hml, fun w h => hts w (List.mem_cons_of_mem _ h), findClass_of_methodNamed B.named, B.notSynchronized, hK, hZ, hNb⟩
  rw [lg_entry_eq]
  exact body p e s m avs.toArray below meth c C B.returns s.heap [] _ hP va_S.rf (lv_entry avs hlen)
theorem ZMv.of {y : MethodName} {ret : Option FieldType} {rm : Room} {avs : List Value}  (hZ : ZL L K N F G) (hrc : rm.cells = 0) (hrs : rm.slots = 0) (hy : plainName y.cls = true) (hlen : (lg_sl avs).length ≤ nL) (body : ∀ (p : Program) (e : Env) (s : State) (m : MethodId) (args : Array Value) (below : List Frame) (meth : Method) (c : Code), ZC p s m args meth c cc y.cls nL D cy L K N F G → meth.sig.returnType = ret → ZW p l e rm s m args below meth c nL D cy L K N F G 0 0 (MQ below (va_Qv (fun _ : Unit => True) (fun _ t => zPost D cy L K N F G I' A' t) (zA L s.heap.size)) args s 0 0 (zA L s.heap.size)) I A 0 (lv_args 0 avs) []) : ZMv l y cc nL ret rm D cy L K N F G avs I A I' A' := by
  intro sz
  refine Met.ofW (cc := cc) (maxL := nL) (ret := ret) hy rfl ?_
  intro p e s m args below meth c s₁ B hml hv
  obtain ⟨rfl, hsz, hP, hK, hNb⟩ := hv
  subst hsz
  have hts := atoms_spec (ws := .code y cc nL ret :: zW) B.pre
  have C : ZC p s m avs.toArray meth c cc y.cls nL D cy L K N F G := ⟨B.exec, B.bytes, hml, fun w h => hts w (List.mem_cons_of_mem _ h), findClass_of_methodNamed B.named, B.notSynchronized, hK, hZ, hNb⟩
  rw [lg_entry_eq]
  exact body p e s m avs.toArray below meth c C B.returns s.heap [] _ hP va_S.rf (lv_entry avs hlen)
end ZK
