section ZKV
variable {p : Program} {l : Launch} {e : Env} {R : Room} {s : State} {m : MethodId} {args : Array Value} {below : List Frame} {meth : Method} {c : Code} {cells slots : Nat} {Q : State → Prop}
variable {cc : ByteArray} {own : String} {nL : Nat} {D : va_G} {cy : Nat → ClassId} {L : List Nat} {K N : Nat → Nat} {F G : Nat → Nat → Nat} {E : Heap → Prop}
variable {I A I' A' : zH} {pc : Nat} {lv lv' : List (Nat × Value)} {st : List Value}
/-- as ZW, with what E says of the heap beside the pool -/
def ZV (p : Program) (l : Launch) (e : Env) (R : Room) (s : State) (m : MethodId) (args : Array Value) (below : List Frame) (meth : Method) (c : Code) (nL : Nat) (D : va_G) (cy : Nat → ClassId) (L : List Nat) (K N : Nat → Nat) (F G : Nat → Nat → Nat) (E : Heap → Prop) (cells slots : Nat) (Q : State → Prop) (I A : zH) (pc : Nat) (lv : List (Nat × Value)) (st : List Value) : Prop :=
  ∀ (H : Heap) (locs : List Loc) (ls : Array Slot), va_P D vwCl (va_pl L (zM cy K N F G I A)) H → va_S (zA L s.heap.size) s.heap H locs → E H → lv_has ls nL lv → W p l e R s m args below meth c H locs cells slots Q (F0 m pc ls st)
theorem zv_of_zw (h : ZW p l e R s m args below meth c nL D cy L K N F G cells slots Q I A pc lv st) : ZV p l e R s m args below meth c nL D cy L K N F G E cells slots Q I A pc lv st := fun H locs ls hP hS _ hl => h H locs ls hP hS hl
theorem zw_of_zv (h : ZV p l e R s m args below meth c nL D cy L K N F G (fun _ => True) cells slots Q I A pc lv st) : ZW p l e R s m args below meth c nL D cy L K N F G cells slots Q I A pc lv st := fun H locs ls hP hS hl => h H locs ls hP hS trivial hl
theorem zv_widen {k n : Nat} (h1 : cells ≤ k) (h2 : slots ≤ n) (h : ZV p l e R s m args below meth c nL D cy L K N F G E k n Q I A pc lv st) : ZV p l e R s m args below meth c nL D cy L K N F G E cells slots Q I A pc lv st := fun H locs ls hP hS hE hl => W.widen h1 h2 (h H locs ls hP hS hE hl)
theorem zw_widen {k n : Nat} (h1 : cells ≤ k) (h2 : slots ≤ n) (h : ZW p l e R s m args below meth c nL D cy L K N F G k n Q I A pc lv st) : ZW p l e R s m args below meth c nL D cy L K N F G cells slots Q I A pc lv st := fun H locs ls hP hS hl => W.widen h1 h2 (h H locs ls hP hS hl)
/-- the script, that no cell of the pool is -/
theorem zw_slen (C : ZC p s m args meth c cc own nL D cy L K N F G) {b Ln : Nat} {xs : Nat → Int32} (hX : va_X b Ln xs s s.heap) (hb : b < s.heap.size) (hbL : b ∉ L) (hd : decode cc pc = .ok (.arraylength, 1)) (kk : ZW p l e R s m args below meth c nL D cy L K N F G cells slots Q I A (pc + 1) lv (.int (Int32.ofNat Ln) :: st)) : ZW p l e R s m args below meth c nL D cy L K N F G cells slots Q I A pc lv (.ref b :: st) := by
  intro H locs ls hP hS hl
  exact va_slen C.x C.b hX hb (fun h => h.elim hbL (Nat.not_le.mpr hb)) hS hd (kk H locs ls hP hS hl)
theorem zw_sld (C : ZC p s m args meth c cc own nL D cy L K N F G) {b Ln : Nat} {xs : Nat → Int32} {i : Int32} (hX : va_X b Ln xs s s.heap) (hb : b < s.heap.size) (hbL : b ∉ L) (hin : vp_in i Ln) (hd : decode cc pc = .ok (.iaload, 1)) (kk : ZW p l e R s m args below meth c nL D cy L K N F G cells slots Q I A (pc + 1) lv (.int (xs i.toNatClampNeg) :: st)) : ZW p l e R s m args below meth c nL D cy L K N F G cells slots Q I A pc lv (.int i :: .ref b :: st) := by
  intro H locs ls hP hS hl
  exact va_sld C.x C.b hX hb (fun h => h.elim hbL (Nat.not_le.mpr hb)) hS hin hd (kk H locs ls hP hS hl)
theorem zv_iconst (C : ZC p s m args meth c cc own nL D cy L K N F G) {n : Int} {v : Int32} (hv : Int32.ofInt n = v) (hd : decode cc pc = .ok (.iconst n, 1)) (kk : ZV p l e R s m args below meth c nL D cy L K N F G E cells slots Q I A (pc + 1) lv (.int v :: st)) : ZV p l e R s m args below meth c nL D cy L K N F G E cells slots Q I A pc lv st := by
  intro H locs ls hP hS hE hl
  exact lv_iconst C.x C.b hd hv (kk H locs ls hP hS hE hl)
theorem zv_bipush (C : ZC p s m args meth c cc own nL D cy L K N F G) {n : Int} {v : Int32} (hv : (Int8.ofInt n).toInt32 = v) (hd : decode cc pc = .ok (.bipush n, 2)) (kk : ZV p l e R s m args below meth c nL D cy L K N F G E cells slots Q I A (pc + 2) lv (.int v :: st)) : ZV p l e R s m args below meth c nL D cy L K N F G E cells slots Q I A pc lv st := by
  intro H locs ls hP hS hE hl
  exact lv_bipush C.x C.b hd hv (kk H locs ls hP hS hE hl)
theorem zv_ldc (C : ZC p s m args meth c cc own nL D cy L K N F G) {index : Nat} {v : Int32} (hc : Cond.constant own index v ∈ zW) (hd : decode cc pc = .ok (.ldc index, 2)) (kk : ZV p l e R s m args below meth c nL D cy L K N F G E cells slots Q I A (pc + 2) lv (.int v :: st)) : ZV p l e R s m args below meth c nL D cy L K N F G E cells slots Q I A pc lv st := by
  intro H locs ls hP hS hE hl
  exact lv_ldc C.x C.b C.o (C.w _ hc) hd (kk H locs ls hP hS hE hl)
theorem zv_ldcw (C : ZC p s m args meth c cc own nL D cy L K N F G) {index : Nat} {v : Int32} (hc : Cond.constant own index v ∈ zW) (hd : decode cc pc = .ok (.ldc_w index, 3)) (kk : ZV p l e R s m args below meth c nL D cy L K N F G E cells slots Q I A (pc + 3) lv (.int v :: st)) : ZV p l e R s m args below meth c nL D cy L K N F G E cells slots Q I A pc lv st := by
  intro H locs ls hP hS hE hl
  exact lv_ldcw C.x C.b C.o (C.w _ hc) hd (kk H locs ls hP hS hE hl)
theorem zv_ldc2 (C : ZC p s m args meth c cc own nL D cy L K N F G) {index : Nat} {v : Int64} (hc : Cond.constantLong own index v ∈ zW) (hd : decode cc pc = .ok (.ldc2_w index, 3)) (kk : ZV p l e R s m args below meth c nL D cy L K N F G E cells slots Q I A (pc + 3) lv (.long v :: st)) : ZV p l e R s m args below meth c nL D cy L K N F G E cells slots Q I A pc lv st := by
  intro H locs ls hP hS hE hl
  exact lv_ldc2 C.x C.b C.o (C.w _ hc) hd (kk H locs ls hP hS hE hl)
theorem zv_iload (C : ZC p s m args meth c cc own nL D cy L K N F G) {i : Nat} {x : Int32} (k : Nat) (hk : lv[k]? = some (i, .int x)) (hd : decode cc pc = .ok (.iload i, 2)) (kk : ZV p l e R s m args below meth c nL D cy L K N F G E cells slots Q I A (pc + 2) lv (.int x :: st)) : ZV p l e R s m args below meth c nL D cy L K N F G E cells slots Q I A pc lv st := by
  intro H locs ls hP hS hE hl
  exact lv_iload C.x C.b hd (lv_at hl k hk) (kk H locs ls hP hS hE hl)
theorem zv_iload_n (C : ZC p s m args meth c cc own nL D cy L K N F G) {j : Fin 4} {i : Nat} {x : Int32} (k : Nat) (hi : (j : Nat) = i) (hk : lv[k]? = some (i, .int x)) (hd : decode cc pc = .ok (.iload_n j, 1)) (kk : ZV p l e R s m args below meth c nL D cy L K N F G E cells slots Q I A (pc + 1) lv (.int x :: st)) : ZV p l e R s m args below meth c nL D cy L K N F G E cells slots Q I A pc lv st := by
  intro H locs ls hP hS hE hl
  exact lv_iload_n C.x C.b hd hi (lv_at hl k hk) (kk H locs ls hP hS hE hl)
theorem zv_istore (C : ZC p s m args meth c cc own nL D cy L K N F G) {i : Nat} {x : Int32} (hn : i < nL) (hl' : (i, Value.int x) :: lv.filter (fun q => !(q.1 == i) && !(q.1 + 1 == i && q.2.category == 2)) = lv') (hd : decode cc pc = .ok (.istore i, 2)) (kk : ZV p l e R s m args below meth c nL D cy L K N F G E cells slots Q I A (pc + 2) lv' st) : ZV p l e R s m args below meth c nL D cy L K N F G E cells slots Q I A pc lv (.int x :: st) := by
  intro H locs ls hP hS hE hl
  exact lv_istore C.x C.b hd hl hn hl' (fun ls2 hl2 => kk H locs ls2 hP hS hE hl2)
theorem zv_istore_n (C : ZC p s m args meth c cc own nL D cy L K N F G) {j : Fin 4} {i : Nat} {x : Int32} (hi : (j : Nat) = i) (hn : i < nL) (hl' : (i, Value.int x) :: lv.filter (fun q => !(q.1 == i) && !(q.1 + 1 == i && q.2.category == 2)) = lv') (hd : decode cc pc = .ok (.istore_n j, 1)) (kk : ZV p l e R s m args below meth c nL D cy L K N F G E cells slots Q I A (pc + 1) lv' st) : ZV p l e R s m args below meth c nL D cy L K N F G E cells slots Q I A pc lv (.int x :: st) := by
  intro H locs ls hP hS hE hl
  exact lv_istore_n C.x C.b hd hi hl hn hl' (fun ls2 hl2 => kk H locs ls2 hP hS hE hl2)
theorem zv_aload (C : ZC p s m args meth c cc own nL D cy L K N F G) {i : Nat} {x : Nat} (k : Nat) (hk : lv[k]? = some (i, .ref x)) (hd : decode cc pc = .ok (.aload i, 2)) (kk : ZV p l e R s m args below meth c nL D cy L K N F G E cells slots Q I A (pc + 2) lv (.ref x :: st)) : ZV p l e R s m args below meth c nL D cy L K N F G E cells slots Q I A pc lv st := by
  intro H locs ls hP hS hE hl
  exact lv_aload C.x C.b hd (lv_at hl k hk) (kk H locs ls hP hS hE hl)
theorem zv_aload_n (C : ZC p s m args meth c cc own nL D cy L K N F G) {j : Fin 4} {i : Nat} {x : Nat} (k : Nat) (hi : (j : Nat) = i) (hk : lv[k]? = some (i, .ref x)) (hd : decode cc pc = .ok (.aload_n j, 1)) (kk : ZV p l e R s m args below meth c nL D cy L K N F G E cells slots Q I A (pc + 1) lv (.ref x :: st)) : ZV p l e R s m args below meth c nL D cy L K N F G E cells slots Q I A pc lv st := by
  intro H locs ls hP hS hE hl
  exact lv_aload_n C.x C.b hd hi (lv_at hl k hk) (kk H locs ls hP hS hE hl)
theorem zv_astore (C : ZC p s m args meth c cc own nL D cy L K N F G) {i : Nat} {x : Nat} (hn : i < nL) (hl' : (i, Value.ref x) :: lv.filter (fun q => !(q.1 == i) && !(q.1 + 1 == i && q.2.category == 2)) = lv') (hd : decode cc pc = .ok (.astore i, 2)) (kk : ZV p l e R s m args below meth c nL D cy L K N F G E cells slots Q I A (pc + 2) lv' st) : ZV p l e R s m args below meth c nL D cy L K N F G E cells slots Q I A pc lv (.ref x :: st) := by
  intro H locs ls hP hS hE hl
  exact lv_astore C.x C.b hd hl hn hl' (fun ls2 hl2 => kk H locs ls2 hP hS hE hl2)
theorem zv_astore_n (C : ZC p s m args meth c cc own nL D cy L K N F G) {j : Fin 4} {i : Nat} {x : Nat} (hi : (j : Nat) = i) (hn : i < nL) (hl' : (i, Value.ref x) :: lv.filter (fun q => !(q.1 == i) && !(q.1 + 1 == i && q.2.category == 2)) = lv') (hd : decode cc pc = .ok (.astore_n j, 1)) (kk : ZV p l e R s m args below meth c nL D cy L K N F G E cells slots Q I A (pc + 1) lv' st) : ZV p l e R s m args below meth c nL D cy L K N F G E cells slots Q I A pc lv (.ref x :: st) := by
  intro H locs ls hP hS hE hl
  exact lv_astore_n C.x C.b hd hi hl hn hl' (fun ls2 hl2 => kk H locs ls2 hP hS hE hl2)
theorem zv_lload (C : ZC p s m args meth c cc own nL D cy L K N F G) {i : Nat} {x : Int64} (k : Nat) (hk : lv[k]? = some (i, .long x)) (hd : decode cc pc = .ok (.lload i, 2)) (kk : ZV p l e R s m args below meth c nL D cy L K N F G E cells slots Q I A (pc + 2) lv (.long x :: st)) : ZV p l e R s m args below meth c nL D cy L K N F G E cells slots Q I A pc lv st := by
  intro H locs ls hP hS hE hl
  exact lv_lload C.x C.b hd (lv_at hl k hk) (kk H locs ls hP hS hE hl)
theorem zv_lload_n (C : ZC p s m args meth c cc own nL D cy L K N F G) {j : Fin 4} {i : Nat} {x : Int64} (k : Nat) (hi : (j : Nat) = i) (hk : lv[k]? = some (i, .long x)) (hd : decode cc pc = .ok (.lload_n j, 1)) (kk : ZV p l e R s m args below meth c nL D cy L K N F G E cells slots Q I A (pc + 1) lv (.long x :: st)) : ZV p l e R s m args below meth c nL D cy L K N F G E cells slots Q I A pc lv st := by
  intro H locs ls hP hS hE hl
  exact lv_lload_n C.x C.b hd hi (lv_at hl k hk) (kk H locs ls hP hS hE hl)
theorem zv_lstore (C : ZC p s m args meth c cc own nL D cy L K N F G) {i : Nat} {x : Int64} (hn : i + 1 < nL) (hl' : (i, Value.long x) :: lv.filter (fun q => !(q.1 == i) && (!(q.1 == i + 1) && !(q.1 + 1 == i && q.2.category == 2))) = lv') (hd : decode cc pc = .ok (.lstore i, 2)) (kk : ZV p l e R s m args below meth c nL D cy L K N F G E cells slots Q I A (pc + 2) lv' st) : ZV p l e R s m args below meth c nL D cy L K N F G E cells slots Q I A pc lv (.long x :: st) := by
  intro H locs ls hP hS hE hl
  exact lv_lstore C.x C.b hd hl hn hl' (fun ls2 hl2 => kk H locs ls2 hP hS hE hl2)
theorem zv_lstore_n (C : ZC p s m args meth c cc own nL D cy L K N F G) {j : Fin 4} {i : Nat} {x : Int64} (hi : (j : Nat) = i) (hn : i + 1 < nL) (hl' : (i, Value.long x) :: lv.filter (fun q => !(q.1 == i) && (!(q.1 == i + 1) && !(q.1 + 1 == i && q.2.category == 2))) = lv') (hd : decode cc pc = .ok (.lstore_n j, 1)) (kk : ZV p l e R s m args below meth c nL D cy L K N F G E cells slots Q I A (pc + 1) lv' st) : ZV p l e R s m args below meth c nL D cy L K N F G E cells slots Q I A pc lv (.long x :: st) := by
  intro H locs ls hP hS hE hl
  exact lv_lstore_n C.x C.b hd hi hl hn hl' (fun ls2 hl2 => kk H locs ls2 hP hS hE hl2)
theorem zv_iinc (C : ZC p s m args meth c cc own nL D cy L K N F G) {i : Nat} {n : Int} {x v : Int32} (k : Nat) (hk : lv[k]? = some (i, .int x)) (hv : x + Int32.ofInt n = v) (hn : i < nL) (hl' : (i, Value.int v) :: lv.filter (fun q => !(q.1 == i) && !(q.1 + 1 == i && q.2.category == 2)) = lv') (hd : decode cc pc = .ok (.iinc i n, 3)) (kk : ZV p l e R s m args below meth c nL D cy L K N F G E cells slots Q I A (pc + 3) lv' st) : ZV p l e R s m args below meth c nL D cy L K N F G E cells slots Q I A pc lv st := by
  intro H locs ls hP hS hE hl
  exact lv_iinc C.x C.b hd hl hk hv hn hl' (fun ls2 hl2 => kk H locs ls2 hP hS hE hl2)
theorem zv_lv (C : ZC p s m args meth c cc own nL D cy L K N F G) (ks : List Nat) (hl' : lv_pick lv ks = lv') (kk : ZV p l e R s m args below meth c nL D cy L K N F G E cells slots Q I A pc lv' st) : ZV p l e R s m args below meth c nL D cy L K N F G E cells slots Q I A pc lv st := by
  intro H locs ls hP hS hE hl
  exact kk H locs ls hP hS hE (lv_sub hl ks hl')
theorem zv_iadd (C : ZC p s m args meth c cc own nL D cy L K N F G) {x y : Int32} (hd : decode cc pc = .ok (.iadd, 1)) (kk : ZV p l e R s m args below meth c nL D cy L K N F G E cells slots Q I A (pc + 1) lv (.int (x + y) :: st)) : ZV p l e R s m args below meth c nL D cy L K N F G E cells slots Q I A pc lv (.int y :: .int x :: st) := by
  intro H locs ls hP hS hE hl
  exact lv_iadd C.x C.b hd (kk H locs ls hP hS hE hl)
theorem zv_isub (C : ZC p s m args meth c cc own nL D cy L K N F G) {x y : Int32} (hd : decode cc pc = .ok (.isub, 1)) (kk : ZV p l e R s m args below meth c nL D cy L K N F G E cells slots Q I A (pc + 1) lv (.int (x - y) :: st)) : ZV p l e R s m args below meth c nL D cy L K N F G E cells slots Q I A pc lv (.int y :: .int x :: st) := by
  intro H locs ls hP hS hE hl
  exact lv_isub C.x C.b hd (kk H locs ls hP hS hE hl)
theorem zv_imul (C : ZC p s m args meth c cc own nL D cy L K N F G) {x y : Int32} (hd : decode cc pc = .ok (.imul, 1)) (kk : ZV p l e R s m args below meth c nL D cy L K N F G E cells slots Q I A (pc + 1) lv (.int (x * y) :: st)) : ZV p l e R s m args below meth c nL D cy L K N F G E cells slots Q I A pc lv (.int y :: .int x :: st) := by
  intro H locs ls hP hS hE hl
  exact lv_imul C.x C.b hd (kk H locs ls hP hS hE hl)
theorem zv_iand (C : ZC p s m args meth c cc own nL D cy L K N F G) {x y : Int32} (hd : decode cc pc = .ok (.iand, 1)) (kk : ZV p l e R s m args below meth c nL D cy L K N F G E cells slots Q I A (pc + 1) lv (.int (x &&& y) :: st)) : ZV p l e R s m args below meth c nL D cy L K N F G E cells slots Q I A pc lv (.int y :: .int x :: st) := by
  intro H locs ls hP hS hE hl
  exact lv_iand C.x C.b hd (kk H locs ls hP hS hE hl)
theorem zv_ior (C : ZC p s m args meth c cc own nL D cy L K N F G) {x y : Int32} (hd : decode cc pc = .ok (.ior, 1)) (kk : ZV p l e R s m args below meth c nL D cy L K N F G E cells slots Q I A (pc + 1) lv (.int (x ||| y) :: st)) : ZV p l e R s m args below meth c nL D cy L K N F G E cells slots Q I A pc lv (.int y :: .int x :: st) := by
  intro H locs ls hP hS hE hl
  exact lv_ior C.x C.b hd (kk H locs ls hP hS hE hl)
theorem zv_ixor (C : ZC p s m args meth c cc own nL D cy L K N F G) {x y : Int32} (hd : decode cc pc = .ok (.ixor, 1)) (kk : ZV p l e R s m args below meth c nL D cy L K N F G E cells slots Q I A (pc + 1) lv (.int (x ^^^ y) :: st)) : ZV p l e R s m args below meth c nL D cy L K N F G E cells slots Q I A pc lv (.int y :: .int x :: st) := by
  intro H locs ls hP hS hE hl
  exact lv_ixor C.x C.b hd (kk H locs ls hP hS hE hl)
theorem zv_ishl (C : ZC p s m args meth c cc own nL D cy L K N F G) {x y : Int32} (hd : decode cc pc = .ok (.ishl, 1)) (kk : ZV p l e R s m args below meth c nL D cy L K N F G E cells slots Q I A (pc + 1) lv (.int (x <<< (y &&& 31)) :: st)) : ZV p l e R s m args below meth c nL D cy L K N F G E cells slots Q I A pc lv (.int y :: .int x :: st) := by
  intro H locs ls hP hS hE hl
  exact lv_ishl C.x C.b hd (kk H locs ls hP hS hE hl)
theorem zv_ishr (C : ZC p s m args meth c cc own nL D cy L K N F G) {x y : Int32} (hd : decode cc pc = .ok (.ishr, 1)) (kk : ZV p l e R s m args below meth c nL D cy L K N F G E cells slots Q I A (pc + 1) lv (.int (x >>> (y &&& 31)) :: st)) : ZV p l e R s m args below meth c nL D cy L K N F G E cells slots Q I A pc lv (.int y :: .int x :: st) := by
  intro H locs ls hP hS hE hl
  exact lv_ishr C.x C.b hd (kk H locs ls hP hS hE hl)
theorem zv_idiv (C : ZC p s m args meth c cc own nL D cy L K N F G) {x y : Int32} (h0 : ¬ y = 0) (hd : decode cc pc = .ok (.idiv, 1)) (kk : ZV p l e R s m args below meth c nL D cy L K N F G E cells slots Q I A (pc + 1) lv (.int (x / y) :: st)) : ZV p l e R s m args below meth c nL D cy L K N F G E cells slots Q I A pc lv (.int y :: .int x :: st) := by
  intro H locs ls hP hS hE hl
  exact lv_idiv C.x C.b hd h0 (kk H locs ls hP hS hE hl)
theorem zv_irem (C : ZC p s m args meth c cc own nL D cy L K N F G) {x y : Int32} (h0 : ¬ y = 0) (hd : decode cc pc = .ok (.irem, 1)) (kk : ZV p l e R s m args below meth c nL D cy L K N F G E cells slots Q I A (pc + 1) lv (.int (x - x / y * y) :: st)) : ZV p l e R s m args below meth c nL D cy L K N F G E cells slots Q I A pc lv (.int y :: .int x :: st) := by
  intro H locs ls hP hS hE hl
  exact lv_irem C.x C.b hd h0 (kk H locs ls hP hS hE hl)
theorem zv_iushr (C : ZC p s m args meth c cc own nL D cy L K N F G) {x y : Int32} (hd : decode cc pc = .ok (.iushr, 1)) (kk : ZV p l e R s m args below meth c nL D cy L K N F G E cells slots Q I A (pc + 1) lv (.int (x.toUInt32 >>> (y.toUInt32 &&& Int32.toUInt32 31)).toInt32 :: st)) : ZV p l e R s m args below meth c nL D cy L K N F G E cells slots Q I A pc lv (.int y :: .int x :: st) := by
  intro H locs ls hP hS hE hl
  exact lv_iushr C.x C.b hd rfl (kk H locs ls hP hS hE hl)
theorem zv_i2l (C : ZC p s m args meth c cc own nL D cy L K N F G) {x : Int32} (hd : decode cc pc = .ok (.i2l, 1)) (kk : ZV p l e R s m args below meth c nL D cy L K N F G E cells slots Q I A (pc + 1) lv (.long x.toInt64 :: st)) : ZV p l e R s m args below meth c nL D cy L K N F G E cells slots Q I A pc lv (.int x :: st) := by
  intro H locs ls hP hS hE hl
  exact lv_i2l C.x C.b hd rfl (kk H locs ls hP hS hE hl)
theorem zv_lmul (C : ZC p s m args meth c cc own nL D cy L K N F G) {x y : Int64} (hd : decode cc pc = .ok (.lmul, 1)) (kk : ZV p l e R s m args below meth c nL D cy L K N F G E cells slots Q I A (pc + 1) lv (.long (x * y) :: st)) : ZV p l e R s m args below meth c nL D cy L K N F G E cells slots Q I A pc lv (.long y :: .long x :: st) := by
  intro H locs ls hP hS hE hl
  exact lv_lmul C.x C.b hd (kk H locs ls hP hS hE hl)
theorem zv_ladd (C : ZC p s m args meth c cc own nL D cy L K N F G) {x y : Int64} (hd : decode cc pc = .ok (.ladd, 1)) (kk : ZV p l e R s m args below meth c nL D cy L K N F G E cells slots Q I A (pc + 1) lv (.long (x + y) :: st)) : ZV p l e R s m args below meth c nL D cy L K N F G E cells slots Q I A pc lv (.long y :: .long x :: st) := by
  intro H locs ls hP hS hE hl
  exact lv_ladd C.x C.b hd (kk H locs ls hP hS hE hl)
theorem zv_lcmp (C : ZC p s m args meth c cc own nL D cy L K N F G) {x y : Int64} (hd : decode cc pc = .ok (.lcmp, 1)) (kk : ZV p l e R s m args below meth c nL D cy L K N F G E cells slots Q I A (pc + 1) lv (.int (lg_cmp x y) :: st)) : ZV p l e R s m args below meth c nL D cy L K N F G E cells slots Q I A pc lv (.long y :: .long x :: st) := by
  intro H locs ls hP hS hE hl
  exact W.lcmp C.x C.b hd (kk H locs ls hP hS hE hl)
theorem zv_dup (C : ZC p s m args meth c cc own nL D cy L K N F G) {va : Value} (hva : va.category = 1) (hd : decode cc pc = .ok (.dup, 1)) (kk : ZV p l e R s m args below meth c nL D cy L K N F G E cells slots Q I A (pc + 1) lv (va :: va :: st)) : ZV p l e R s m args below meth c nL D cy L K N F G E cells slots Q I A pc lv (va :: st) := by
  intro H locs ls hP hS hE hl
  exact lv_dup C.x C.b hd hva (kk H locs ls hP hS hE hl)
theorem zv_pop (C : ZC p s m args meth c cc own nL D cy L K N F G) {va : Value} (hva : va.category = 1) (hd : decode cc pc = .ok (.pop, 1)) (kk : ZV p l e R s m args below meth c nL D cy L K N F G E cells slots Q I A (pc + 1) lv st) : ZV p l e R s m args below meth c nL D cy L K N F G E cells slots Q I A pc lv (va :: st) := by
  intro H locs ls hP hS hE hl
  exact lv_pop C.x C.b hd hva (kk H locs ls hP hS hE hl)
theorem zv_dup2 (C : ZC p s m args meth c cc own nL D cy L K N F G) {va vb : Value} (hva : va.category = 1) (hvb : vb.category = 1) (hd : decode cc pc = .ok (.dup2, 1)) (kk : ZV p l e R s m args below meth c nL D cy L K N F G E cells slots Q I A (pc + 1) lv (va :: vb :: va :: vb :: st)) : ZV p l e R s m args below meth c nL D cy L K N F G E cells slots Q I A pc lv (va :: vb :: st) := by
  intro H locs ls hP hS hE hl
  exact lv_dup2_11 C.x C.b hd hva hvb (kk H locs ls hP hS hE hl)
theorem zv_top (C : ZC p s m args meth c cc own nL D cy L K N F G) {x y : Int32} (h : x = y) (kk : ZV p l e R s m args below meth c nL D cy L K N F G E cells slots Q I A pc lv (.int y :: st)) : ZV p l e R s m args below meth c nL D cy L K N F G E cells slots Q I A pc lv (.int x :: st) := by
  subst h
  exact kk
theorem zv_topl (C : ZC p s m args meth c cc own nL D cy L K N F G) {x y : Int64} (h : x = y) (kk : ZV p l e R s m args below meth c nL D cy L K N F G E cells slots Q I A pc lv (.long y :: st)) : ZV p l e R s m args below meth c nL D cy L K N F G E cells slots Q I A pc lv (.long x :: st) := by
  subst h
  exact kk
theorem zv_if_eq (C : ZC p s m args meth c cc own nL D cy L K N F G) {x : Int32} {off : Int} {tgt : Nat} (ht : (pc : Int) + off = (tgt : Int)) (hd : decode cc pc = .ok (.ifCond .eq off, 3)) (kt : x = 0 → ZV p l e R s m args below meth c nL D cy L K N F G E cells slots Q I A tgt lv st) (kf : ¬ x = 0 → ZV p l e R s m args below meth c nL D cy L K N F G E cells slots Q I A (pc + 3) lv st) : ZV p l e R s m args below meth c nL D cy L K N F G E cells slots Q I A pc lv (.int x :: st) := by
  intro H locs ls hP hS hE hl
  exact lv_if_eq C.x C.b hd ht (fun h => kt h H locs ls hP hS hE hl) (fun h => kf h H locs ls hP hS hE hl)
theorem zv_if_ne (C : ZC p s m args meth c cc own nL D cy L K N F G) {x : Int32} {off : Int} {tgt : Nat} (ht : (pc : Int) + off = (tgt : Int)) (hd : decode cc pc = .ok (.ifCond .ne off, 3)) (kt : ¬ x = 0 → ZV p l e R s m args below meth c nL D cy L K N F G E cells slots Q I A tgt lv st) (kf : x = 0 → ZV p l e R s m args below meth c nL D cy L K N F G E cells slots Q I A (pc + 3) lv st) : ZV p l e R s m args below meth c nL D cy L K N F G E cells slots Q I A pc lv (.int x :: st) := by
  intro H locs ls hP hS hE hl
  exact lv_if_ne C.x C.b hd ht (fun h => kt h H locs ls hP hS hE hl) (fun h => kf h H locs ls hP hS hE hl)
theorem zv_if_lt (C : ZC p s m args meth c cc own nL D cy L K N F G) {x : Int32} {off : Int} {tgt : Nat} (ht : (pc : Int) + off = (tgt : Int)) (hd : decode cc pc = .ok (.ifCond .lt off, 3)) (kt : x < 0 → ZV p l e R s m args below meth c nL D cy L K N F G E cells slots Q I A tgt lv st) (kf : ¬ x < 0 → ZV p l e R s m args below meth c nL D cy L K N F G E cells slots Q I A (pc + 3) lv st) : ZV p l e R s m args below meth c nL D cy L K N F G E cells slots Q I A pc lv (.int x :: st) := by
  intro H locs ls hP hS hE hl
  exact lv_if_lt C.x C.b hd ht (fun h => kt h H locs ls hP hS hE hl) (fun h => kf h H locs ls hP hS hE hl)
theorem zv_if_ge (C : ZC p s m args meth c cc own nL D cy L K N F G) {x : Int32} {off : Int} {tgt : Nat} (ht : (pc : Int) + off = (tgt : Int)) (hd : decode cc pc = .ok (.ifCond .ge off, 3)) (kt : 0 ≤ x → ZV p l e R s m args below meth c nL D cy L K N F G E cells slots Q I A tgt lv st) (kf : ¬ 0 ≤ x → ZV p l e R s m args below meth c nL D cy L K N F G E cells slots Q I A (pc + 3) lv st) : ZV p l e R s m args below meth c nL D cy L K N F G E cells slots Q I A pc lv (.int x :: st) := by
  intro H locs ls hP hS hE hl
  exact lv_if_ge C.x C.b hd ht (fun h => kt h H locs ls hP hS hE hl) (fun h => kf h H locs ls hP hS hE hl)
theorem zv_if_gt (C : ZC p s m args meth c cc own nL D cy L K N F G) {x : Int32} {off : Int} {tgt : Nat} (ht : (pc : Int) + off = (tgt : Int)) (hd : decode cc pc = .ok (.ifCond .gt off, 3)) (kt : 0 < x → ZV p l e R s m args below meth c nL D cy L K N F G E cells slots Q I A tgt lv st) (kf : ¬ 0 < x → ZV p l e R s m args below meth c nL D cy L K N F G E cells slots Q I A (pc + 3) lv st) : ZV p l e R s m args below meth c nL D cy L K N F G E cells slots Q I A pc lv (.int x :: st) := by
  intro H locs ls hP hS hE hl
  exact lv_if_gt C.x C.b hd ht (fun h => kt h H locs ls hP hS hE hl) (fun h => kf h H locs ls hP hS hE hl)
theorem zv_if_le (C : ZC p s m args meth c cc own nL D cy L K N F G) {x : Int32} {off : Int} {tgt : Nat} (ht : (pc : Int) + off = (tgt : Int)) (hd : decode cc pc = .ok (.ifCond .le off, 3)) (kt : x ≤ 0 → ZV p l e R s m args below meth c nL D cy L K N F G E cells slots Q I A tgt lv st) (kf : ¬ x ≤ 0 → ZV p l e R s m args below meth c nL D cy L K N F G E cells slots Q I A (pc + 3) lv st) : ZV p l e R s m args below meth c nL D cy L K N F G E cells slots Q I A pc lv (.int x :: st) := by
  intro H locs ls hP hS hE hl
  exact lv_if_le C.x C.b hd ht (fun h => kt h H locs ls hP hS hE hl) (fun h => kf h H locs ls hP hS hE hl)
theorem zv_icmp_eq (C : ZC p s m args meth c cc own nL D cy L K N F G) {x y : Int32} {off : Int} {tgt : Nat} (ht : (pc : Int) + off = (tgt : Int)) (hd : decode cc pc = .ok (.if_icmp .eq off, 3)) (kt : x = y → ZV p l e R s m args below meth c nL D cy L K N F G E cells slots Q I A tgt lv st) (kf : ¬ x = y → ZV p l e R s m args below meth c nL D cy L K N F G E cells slots Q I A (pc + 3) lv st) : ZV p l e R s m args below meth c nL D cy L K N F G E cells slots Q I A pc lv (.int y :: .int x :: st) := by
  intro H locs ls hP hS hE hl
  exact lv_icmp_eq C.x C.b hd ht (fun h => kt h H locs ls hP hS hE hl) (fun h => kf h H locs ls hP hS hE hl)
theorem zv_icmp_ne (C : ZC p s m args meth c cc own nL D cy L K N F G) {x y : Int32} {off : Int} {tgt : Nat} (ht : (pc : Int) + off = (tgt : Int)) (hd : decode cc pc = .ok (.if_icmp .ne off, 3)) (kt : ¬ x = y → ZV p l e R s m args below meth c nL D cy L K N F G E cells slots Q I A tgt lv st) (kf : x = y → ZV p l e R s m args below meth c nL D cy L K N F G E cells slots Q I A (pc + 3) lv st) : ZV p l e R s m args below meth c nL D cy L K N F G E cells slots Q I A pc lv (.int y :: .int x :: st) := by
  intro H locs ls hP hS hE hl
  exact lv_icmp_ne C.x C.b hd ht (fun h => kt h H locs ls hP hS hE hl) (fun h => kf h H locs ls hP hS hE hl)
theorem zv_icmp_lt (C : ZC p s m args meth c cc own nL D cy L K N F G) {x y : Int32} {off : Int} {tgt : Nat} (ht : (pc : Int) + off = (tgt : Int)) (hd : decode cc pc = .ok (.if_icmp .lt off, 3)) (kt : x < y → ZV p l e R s m args below meth c nL D cy L K N F G E cells slots Q I A tgt lv st) (kf : ¬ x < y → ZV p l e R s m args below meth c nL D cy L K N F G E cells slots Q I A (pc + 3) lv st) : ZV p l e R s m args below meth c nL D cy L K N F G E cells slots Q I A pc lv (.int y :: .int x :: st) := by
  intro H locs ls hP hS hE hl
  exact lv_icmp_lt C.x C.b hd ht (fun h => kt h H locs ls hP hS hE hl) (fun h => kf h H locs ls hP hS hE hl)
theorem zv_icmp_ge (C : ZC p s m args meth c cc own nL D cy L K N F G) {x y : Int32} {off : Int} {tgt : Nat} (ht : (pc : Int) + off = (tgt : Int)) (hd : decode cc pc = .ok (.if_icmp .ge off, 3)) (kt : y ≤ x → ZV p l e R s m args below meth c nL D cy L K N F G E cells slots Q I A tgt lv st) (kf : ¬ y ≤ x → ZV p l e R s m args below meth c nL D cy L K N F G E cells slots Q I A (pc + 3) lv st) : ZV p l e R s m args below meth c nL D cy L K N F G E cells slots Q I A pc lv (.int y :: .int x :: st) := by
  intro H locs ls hP hS hE hl
  exact lv_icmp_ge C.x C.b hd ht (fun h => kt h H locs ls hP hS hE hl) (fun h => kf h H locs ls hP hS hE hl)
theorem zv_icmp_gt (C : ZC p s m args meth c cc own nL D cy L K N F G) {x y : Int32} {off : Int} {tgt : Nat} (ht : (pc : Int) + off = (tgt : Int)) (hd : decode cc pc = .ok (.if_icmp .gt off, 3)) (kt : y < x → ZV p l e R s m args below meth c nL D cy L K N F G E cells slots Q I A tgt lv st) (kf : ¬ y < x → ZV p l e R s m args below meth c nL D cy L K N F G E cells slots Q I A (pc + 3) lv st) : ZV p l e R s m args below meth c nL D cy L K N F G E cells slots Q I A pc lv (.int y :: .int x :: st) := by
  intro H locs ls hP hS hE hl
  exact lv_icmp_gt C.x C.b hd ht (fun h => kt h H locs ls hP hS hE hl) (fun h => kf h H locs ls hP hS hE hl)
theorem zv_icmp_le (C : ZC p s m args meth c cc own nL D cy L K N F G) {x y : Int32} {off : Int} {tgt : Nat} (ht : (pc : Int) + off = (tgt : Int)) (hd : decode cc pc = .ok (.if_icmp .le off, 3)) (kt : x ≤ y → ZV p l e R s m args below meth c nL D cy L K N F G E cells slots Q I A tgt lv st) (kf : ¬ x ≤ y → ZV p l e R s m args below meth c nL D cy L K N F G E cells slots Q I A (pc + 3) lv st) : ZV p l e R s m args below meth c nL D cy L K N F G E cells slots Q I A pc lv (.int y :: .int x :: st) := by
  intro H locs ls hP hS hE hl
  exact lv_icmp_le C.x C.b hd ht (fun h => kt h H locs ls hP hS hE hl) (fun h => kf h H locs ls hP hS hE hl)
theorem zv_goto (C : ZC p s m args meth c cc own nL D cy L K N F G) {off : Int} {tgt : Nat} (ht : (pc : Int) + off = (tgt : Int)) (hd : decode cc pc = .ok (.goto off, 3)) (kk : ZV p l e R s m args below meth c nL D cy L K N F G E cells slots Q I A tgt lv st) : ZV p l e R s m args below meth c nL D cy L K N F G E cells slots Q I A pc lv st := by
  intro H locs ls hP hS hE hl
  exact lv_goto C.x C.b hd ht (kk H locs ls hP hS hE hl)
theorem zv_tableOut (C : ZC p s m args meth c cc own nL D cy L K N F G) {dflt lo hi : Int} {offs : Array Int} {len : Nat} {x : Int32} {tgt : Nat} (h : x.toInt < lo ∨ hi < x.toInt) (ht : (pc : Int) + dflt = (tgt : Int)) (hd : decode cc pc = .ok (.tableswitch dflt lo hi offs, len)) (kk : ZV p l e R s m args below meth c nL D cy L K N F G E cells slots Q I A tgt lv st) : ZV p l e R s m args below meth c nL D cy L K N F G E cells slots Q I A pc lv (.int x :: st) := by
  intro H locs ls hP hS hE hl
  exact lv_tableOut C.x C.b hd h ht (kk H locs ls hP hS hE hl)
theorem zv_tableIn (C : ZC p s m args meth c cc own nL D cy L K N F G) {dflt lo hi : Int} {offs : Array Int} {len : Nat} {x : Int32} {off : Int} {tgt : Nat} (h1 : ¬ x.toInt < lo) (h2 : ¬ hi < x.toInt) (ho : offs[(x.toInt - lo).toNat]? = some off) (ht : (pc : Int) + off = (tgt : Int)) (hd : decode cc pc = .ok (.tableswitch dflt lo hi offs, len)) (kk : ZV p l e R s m args below meth c nL D cy L K N F G E cells slots Q I A tgt lv st) : ZV p l e R s m args below meth c nL D cy L K N F G E cells slots Q I A pc lv (.int x :: st) := by
  intro H locs ls hP hS hE hl
  exact lv_tableIn C.x C.b hd h1 h2 ho ht (kk H locs ls hP hS hE hl)
theorem zv_get (C : ZC p s m args meth c cc own nL D cy L K N F G) {cn : String} {T : u_T} {Nf ci k : Nat} {a : Nat} {v : Value} {idx : Nat} (hk : K a = ci) (h6 : ci < 6) (hc : vwCl[ci]? = some (cn, T, Nf)) (hin : ∀ w ∈ u_ws cn T Nf, w ∈ zW) (hkN : k < Nf) (hlk : Cond.fieldLink own idx (T k).1 (T k).2.1 (T k).2.2.1 ∈ zW) (hv : (zF ci F I a)[k]? = some v) (hd : decode cc pc = .ok (.getfield idx, 3)) (kk : ZV p l e R s m args below meth c nL D cy L K N F G E cells slots Q I A (pc + 3) lv (v :: st)) : ZV p l e R s m args below meth c nL D cy L K N F G E cells slots Q I A pc lv (.ref a :: st) := by
  intro H locs ls hP hS hE hl
  obtain ⟨q0, hq⟩ := z_getk (f := zM cy K N F G I A) (zl_in C.z hk (by omega))
  have he : zM cy K N F G I A a = .inr (ci, zF ci F I a) := by simp only [zM, hk, if_pos h6]
  rw [he] at hq
  exact va_get C.x C.b C.w hin C.o C.k hP q0 hq hc k hkN (C.w _ hlk) (fun _ h => h) hv hd (kk H locs ls hP hS hE hl)
theorem zv_iald (C : ZC p s m args meth c cc own nL D cy L K N F G) {a n : Nat} {i : Int32} (hk : K a = 6) (hn : N a = n) (hin : vp_in i n) (hd : decode cc pc = .ok (.iaload, 1)) (kk : ZV p l e R s m args below meth c nL D cy L K N F G E cells slots Q I A (pc + 1) lv (.int (A a i.toNatClampNeg) :: st)) : ZV p l e R s m args below meth c nL D cy L K N F G E cells slots Q I A pc lv (.int i :: .ref a :: st) := by
  intro H locs ls hP hS hE hl
  obtain ⟨q0, hq⟩ := z_getk (f := zM cy K N F G I A) (zl_in C.z hk (by omega))
  have he : zM cy K N F G I A a = .inl (cy 6, N a, .inl (A a)) := by simp [zM, hk]
  rw [he, hn] at hq
  exact va_iald C.x C.b C.k hP q0 0 hq rfl hin hd (kk H locs ls hP hS hE hl)
theorem zv_ald7 (C : ZC p s m args meth c cc own nL D cy L K N F G) {a n : Nat} {i : Int32} (hk : K a = 7) (hn : N a = n) (hin : vp_in i n) (hd : decode cc pc = .ok (.aaload, 1)) (kk : ZV p l e R s m args below meth c nL D cy L K N F G E cells slots Q I A (pc + 1) lv (.ref (G a i.toNatClampNeg) :: st)) : ZV p l e R s m args below meth c nL D cy L K N F G E cells slots Q I A pc lv (.int i :: .ref a :: st) := by
  intro H locs ls hP hS hE hl
  obtain ⟨q0, hq⟩ := z_getk (f := zM cy K N F G I A) (zl_in C.z hk (by omega))
  have he : zM cy K N F G I A a = .inl (cy 7, N a, .inr (.inr (.inr (.inr (fun j => some (G a j)))))) := by simp [zM, hk]
  rw [he, hn] at hq
  exact va_aldq C.x C.b C.k hP q0 1 hq rfl hin hd (kk H locs ls hP hS hE hl)
theorem zv_ald8 (C : ZC p s m args meth c cc own nL D cy L K N F G) {a n : Nat} {i : Int32} (hk : K a = 8) (hn : N a = n) (hin : vp_in i n) (hd : decode cc pc = .ok (.aaload, 1)) (kk : ZV p l e R s m args below meth c nL D cy L K N F G E cells slots Q I A (pc + 1) lv (.ref (G a i.toNatClampNeg) :: st)) : ZV p l e R s m args below meth c nL D cy L K N F G E cells slots Q I A pc lv (.int i :: .ref a :: st) := by
  intro H locs ls hP hS hE hl
  obtain ⟨q0, hq⟩ := z_getk (f := zM cy K N F G I A) (zl_in C.z hk (by omega))
  have he : zM cy K N F G I A a = .inl (cy 8, N a, .inr (.inr (.inr (.inr (fun j => some (G a j)))))) := by simp [zM, hk]
  rw [he, hn] at hq
  exact va_aldq C.x C.b C.k hP q0 2 hq rfl hin hd (kk H locs ls hP hS hE hl)
theorem zv_ald9 (C : ZC p s m args meth c cc own nL D cy L K N F G) {a n : Nat} {i : Int32} (hk : K a = 9) (hn : N a = n) (hin : vp_in i n) (hd : decode cc pc = .ok (.aaload, 1)) (kk : ZV p l e R s m args below meth c nL D cy L K N F G E cells slots Q I A (pc + 1) lv (.ref (G a i.toNatClampNeg) :: st)) : ZV p l e R s m args below meth c nL D cy L K N F G E cells slots Q I A pc lv (.int i :: .ref a :: st) := by
  intro H locs ls hP hS hE hl
  obtain ⟨q0, hq⟩ := z_getk (f := zM cy K N F G I A) (zl_in C.z hk (by omega))
  have he : zM cy K N F G I A a = .inl (cy 9, N a, .inr (.inr (.inr (.inr (fun j => some (G a j)))))) := by simp [zM, hk]
  rw [he, hn] at hq
  exact va_aldq C.x C.b C.k hP q0 3 hq rfl hin hd (kk H locs ls hP hS hE hl)
theorem zv_ald10 (C : ZC p s m args meth c cc own nL D cy L K N F G) {a n : Nat} {i : Int32} (hk : K a = 10) (hn : N a = n) (hin : vp_in i n) (hd : decode cc pc = .ok (.aaload, 1)) (kk : ZV p l e R s m args below meth c nL D cy L K N F G E cells slots Q I A (pc + 1) lv (.ref (G a i.toNatClampNeg) :: st)) : ZV p l e R s m args below meth c nL D cy L K N F G E cells slots Q I A pc lv (.int i :: .ref a :: st) := by
  intro H locs ls hP hS hE hl
  obtain ⟨q0, hq⟩ := z_getk (f := zM cy K N F G I A) (zl_in C.z hk (by omega))
  have he : zM cy K N F G I A a = .inl (cy 10, N a, .inr (.inr (.inr (.inr (fun j => some (G a j)))))) := by simp [zM, hk]
  rw [he, hn] at hq
  exact va_aldqA C.x C.b C.k hP q0 4 hq rfl hin hd (kk H locs ls hP hS hE hl)
theorem zv_min (C : ZC p s m args meth c cc own nL D cy L K N F G) {idx : Nat} {x y : Int32} (h1 : Cond.methodLink own idx Lib.Math.min.name ∈ zW) (h2 : Cond.static Lib.Math.min.name ∈ zW) (h3 : Cond.initialized "java/lang/Math" ∈ zW) (h4 : Cond.code Lib.Math.min.name Lib.Math.min.code 2 (some .int) ∈ zW) (hf : 1 ≤ R.frames) (hlo : (st.map fun v => v.category).sum + 13 ≤ R.locals) (hcs : cells ≤ R.cells ∧ slots ≤ R.slots) (hd : decode cc pc = .ok (.invokestatic idx, 3)) (kk : ZV p l e R s m args below meth c nL D cy L K N F G E cells slots Q I A (pc + 3) lv (.int (if y < x then y else x) :: st)) : ZV p l e R s m args below meth c nL D cy L K N F G E cells slots Q I A pc lv (.int y :: .int x :: st) := by
  intro H locs ls hP hS hE hl
  exact va_mmin C.x C.b (C.ml.trans hl.1.symm) C.o (C.w _ h1) (C.w _ h2) (C.w _ h3) (C.w _ h4) hf hlo hcs.1 hcs.2 hd (kk H locs ls hP hS hE hl)
theorem zv_callVi (C : ZC p s m args meth c cc own nL D cy L K N F G) {y : MethodName} {bytes : ByteArray} {maxL n idx : Nat} {rm : Room} {As : List Value} {st0 : List Value} {rt : Option FieldType} {r : Int32} {a ci Nf : Nat} {T : u_T} (hM : ZMi l y bytes maxL rt rm D cy L K N F G (.ref a :: As) I A r I' A') (w1 : Cond.methodLink own idx y ∈ zW) (w2 : Cond.instanceMethod y ∈ zW) (w3 : Cond.selects y.cls y y ∈ zW) (w4 : Cond.initialized y.cls ∈ zW) (w5 : Cond.code y bytes maxL rt ∈ zW) (hd0 : y.cls ≠ "java/lang/invoke/MethodHandle" ∧ y.cls ≠ "java/lang/invoke/VarHandle" ∧ (parseMethodDescriptor y.desc).map (fun d => d.parameters.length) = some n) (hR : rm.frames + 1 ≤ R.frames ∧ 8 + (maxL + 11) + rm.locals ≤ R.locals) (hrc : rm.cells = 0) (hrs : rm.slots = 0) (hcs : cells ≤ R.cells ∧ slots ≤ R.slots) (hk : K a = ci) (h6 : ci < 6) (hc : vwCl[ci]? = some (y.cls, T, Nf)) (hn : As.length = n) (hst : st0 = As.reverse ++ .ref a :: st) (hW : (st.map fun v => v.category).sum ≤ 8) (hd : decode cc pc = .ok (.invokevirtual idx, 3)) (hEs : ∀ H H1 : Heap, E H → H.size ≤ H1.size → (∀ q : Nat, q < H.size → q ∉ L → H1[q]? = H[q]?) → E H1) (kk : ZV p l e R s m args below meth c nL D cy L K N F G E cells slots Q I' A' (pc + 3) lv (.int r :: st)) : ZV p l e R s m args below meth c nL D cy L K N F G E cells slots Q I A pc lv st0 := by
  intro H locs ls hP hS hE hl
  obtain ⟨q0, hq⟩ := z_getk (f := zM cy K N F G I A) (zl_in C.z hk (by omega))
  have he : zM cy K N F G I A a = .inr (ci, zF ci F I a) := by simp only [zM, hk, if_pos h6]
  rw [he] at hq
  refine va_calli (va_runV (As := As) (rest := st) ⟨C.x, C.b, C.ml, C.o, C.w⟩ (hM H.size) (cwV n C.w (zGV w1 w2 w3 w4 w5) rfl hrc hrs ⟨rfl, hd0⟩ hR) ⟨zPre.blind, va_recv C.k hP hc hq, fun U hU hW => ⟨rfl, by rw [hU], by rw [hU]; exact hP, va_K.moved hW.alike C.k, zNb.warm hW C.nb⟩⟩ rfl hn hl.1 hst (lv_room hW) hd hcs) hS (fun q _ h => z_free hS q h) (z_free hS) (fun x u t H1 locs1 ht hvm hw hB hz1 hk1 hS1 => ?_)
  rw [show zPost D cy L K N F G I' A' t = va_P D vwCl (va_pl L (zM cy K N F G I' A')) t.heap from rfl, ht] at hB
  subst hw
  exact kk H1 locs1 ls hB hS1 (hEs H H1 hE hz1 (fun q h1 h2 => hk1 q h1 (fun h3 => h3.elim h2 (Nat.not_le.mpr h1)))) hl
theorem zv_callSi (C : ZC p s m args meth c cc own nL D cy L K N F G) {y : MethodName} {bytes : ByteArray} {maxL n idx : Nat} {rm : Room} {As : List Value} {st0 : List Value} {rt : Option FieldType} {r : Int32} (hM : ZMi l y bytes maxL rt rm D cy L K N F G As I A r I' A') (w1 : Cond.methodLink own idx y ∈ zW) (w2 : Cond.static y ∈ zW) (w4 : Cond.initialized y.cls ∈ zW) (w5 : Cond.code y bytes maxL rt ∈ zW) (hd0 : y.cls ≠ "java/lang/invoke/MethodHandle" ∧ y.cls ≠ "java/lang/invoke/VarHandle" ∧ (parseMethodDescriptor y.desc).map (fun d => d.parameters.length) = some n) (hR : rm.frames + 1 ≤ R.frames ∧ 8 + (maxL + 11) + rm.locals ≤ R.locals) (hrc : rm.cells = 0) (hrs : rm.slots = 0) (hcs : cells ≤ R.cells ∧ slots ≤ R.slots) (hn : As.length = n) (hst : st0 = As.reverse ++ st) (hW : (st.map fun v => v.category).sum ≤ 8) (hd : decode cc pc = .ok (.invokestatic idx, 3)) (hEs : ∀ H H1 : Heap, E H → H.size ≤ H1.size → (∀ q : Nat, q < H.size → q ∉ L → H1[q]? = H[q]?) → E H1) (kk : ZV p l e R s m args below meth c nL D cy L K N F G E cells slots Q I' A' (pc + 3) lv (.int r :: st)) : ZV p l e R s m args below meth c nL D cy L K N F G E cells slots Q I A pc lv st0 := by
  intro H locs ls hP hS hE hl
  refine va_calli (va_runS (As := As) (rest := st) ⟨C.x, C.b, C.ml, C.o, C.w⟩ (hM H.size) (va_cwS n C.w (zGS w1 w2 w4 w5) rfl hrc hrs hd0 hR) ⟨zPre.blind, fun U hU hW => ⟨rfl, by rw [hU], by rw [hU]; exact hP, va_K.moved hW.alike C.k, zNb.warm hW C.nb⟩⟩ rfl hn hl.1 hst (lv_room hW) hd hcs) hS (fun q _ h => z_free hS q h) (z_free hS) (fun x u t H1 locs1 ht hvm hw hB hz1 hk1 hS1 => ?_)
  rw [show zPost D cy L K N F G I' A' t = va_P D vwCl (va_pl L (zM cy K N F G I' A')) t.heap from rfl, ht] at hB
  subst hw
  exact kk H1 locs1 ls hB hS1 (hEs H H1 hE hz1 (fun q h1 h2 => hk1 q h1 (fun h3 => h3.elim h2 (Nat.not_le.mpr h1)))) hl
theorem zv_callNi (C : ZC p s m args meth c cc own nL D cy L K N F G) {y : MethodName} {bytes : ByteArray} {maxL n idx : Nat} {rm : Room} {As : List Value} {st0 : List Value} {rt : Option FieldType} {r : Int32} {host : String} (hM : ZMi l y bytes maxL rt rm D cy L K N F G As I A r I' A') (w1 : va_Nw (.methodLinkNest own idx y host) s) (w2 : Cond.static y ∈ zW) (w4 : Cond.initialized y.cls ∈ zW) (w5 : Cond.code y bytes maxL rt ∈ zW) (hd0 : y.cls ≠ "java/lang/invoke/MethodHandle" ∧ y.cls ≠ "java/lang/invoke/VarHandle" ∧ (parseMethodDescriptor y.desc).map (fun d => d.parameters.length) = some n) (hR : rm.frames + 1 ≤ R.frames ∧ 8 + (maxL + 11) + rm.locals ≤ R.locals) (hrc : rm.cells = 0) (hrs : rm.slots = 0) (hcs : cells ≤ R.cells ∧ slots ≤ R.slots) (hn : As.length = n) (hst : st0 = As.reverse ++ st) (hW : (st.map fun v => v.category).sum ≤ 8) (hd : decode cc pc = .ok (.invokestatic idx, 3)) (hEs : ∀ H H1 : Heap, E H → H.size ≤ H1.size → (∀ q : Nat, q < H.size → q ∉ L → H1[q]? = H[q]?) → E H1) (kk : ZV p l e R s m args below meth c nL D cy L K N F G E cells slots Q I' A' (pc + 3) lv (.int r :: st)) : ZV p l e R s m args below meth c nL D cy L K N F G E cells slots Q I A pc lv st0 := by
  intro H locs ls hP hS hE hl
  refine va_calli (va_runSN (As := As) (rest := st) ⟨C.x, C.b, C.ml, C.o, C.w⟩ (hM H.size) ⟨va_cnB n C.w (zGood w5) rfl hrc hrs w1 (C.w _ w4) hd0 hR, C.w _ w2, trivial⟩ ⟨zPre.blind, fun U hU hW => ⟨rfl, by rw [hU], by rw [hU]; exact hP, va_K.moved hW.alike C.k, zNb.warm hW C.nb⟩⟩ rfl hn hl.1 hst (lv_room hW) hd hcs) hS (fun q _ h => z_free hS q h) (z_free hS) (fun x u t H1 locs1 ht hvm hw hB hz1 hk1 hS1 => ?_)
  rw [show zPost D cy L K N F G I' A' t = va_P D vwCl (va_pl L (zM cy K N F G I' A')) t.heap from rfl, ht] at hB
  subst hw
  exact kk H1 locs1 ls hB hS1 (hEs H H1 hE hz1 (fun q h1 h2 => hk1 q h1 (fun h3 => h3.elim h2 (Nat.not_le.mpr h1)))) hl
theorem zv_callVl (C : ZC p s m args meth c cc own nL D cy L K N F G) {y : MethodName} {bytes : ByteArray} {maxL n idx : Nat} {rm : Room} {As : List Value} {st0 : List Value} {rt : Option FieldType} {r : Int64} {a ci Nf : Nat} {T : u_T} (hM : ZMl l y bytes maxL rt rm D cy L K N F G (.ref a :: As) I A r I' A') (w1 : Cond.methodLink own idx y ∈ zW) (w2 : Cond.instanceMethod y ∈ zW) (w3 : Cond.selects y.cls y y ∈ zW) (w4 : Cond.initialized y.cls ∈ zW) (w5 : Cond.code y bytes maxL rt ∈ zW) (hd0 : y.cls ≠ "java/lang/invoke/MethodHandle" ∧ y.cls ≠ "java/lang/invoke/VarHandle" ∧ (parseMethodDescriptor y.desc).map (fun d => d.parameters.length) = some n) (hR : rm.frames + 1 ≤ R.frames ∧ 8 + (maxL + 11) + rm.locals ≤ R.locals) (hrc : rm.cells = 0) (hrs : rm.slots = 0) (hcs : cells ≤ R.cells ∧ slots ≤ R.slots) (hk : K a = ci) (h6 : ci < 6) (hc : vwCl[ci]? = some (y.cls, T, Nf)) (hn : As.length = n) (hst : st0 = As.reverse ++ .ref a :: st) (hW : (st.map fun v => v.category).sum ≤ 8) (hd : decode cc pc = .ok (.invokevirtual idx, 3)) (hEs : ∀ H H1 : Heap, E H → H.size ≤ H1.size → (∀ q : Nat, q < H.size → q ∉ L → H1[q]? = H[q]?) → E H1) (kk : ZV p l e R s m args below meth c nL D cy L K N F G E cells slots Q I' A' (pc + 3) lv (.long r :: st)) : ZV p l e R s m args below meth c nL D cy L K N F G E cells slots Q I A pc lv st0 := by
  intro H locs ls hP hS hE hl
  obtain ⟨q0, hq⟩ := z_getk (f := zM cy K N F G I A) (zl_in C.z hk (by omega))
  have he : zM cy K N F G I A a = .inr (ci, zF ci F I a) := by simp only [zM, hk, if_pos h6]
  rw [he] at hq
  refine va_calll (va_runV (As := As) (rest := st) ⟨C.x, C.b, C.ml, C.o, C.w⟩ (hM H.size) (cwV n C.w (zGV w1 w2 w3 w4 w5) rfl hrc hrs ⟨rfl, hd0⟩ hR) ⟨zPre.blind, va_recv C.k hP hc hq, fun U hU hW => ⟨rfl, by rw [hU], by rw [hU]; exact hP, va_K.moved hW.alike C.k, zNb.warm hW C.nb⟩⟩ rfl hn hl.1 hst (lv_room hW) hd hcs) hS (fun q _ h => z_free hS q h) (z_free hS) (fun x u t H1 locs1 ht hvm hw hB hz1 hk1 hS1 => ?_)
  rw [show zPost D cy L K N F G I' A' t = va_P D vwCl (va_pl L (zM cy K N F G I' A')) t.heap from rfl, ht] at hB
  subst hw
  exact kk H1 locs1 ls hB hS1 (hEs H H1 hE hz1 (fun q h1 h2 => hk1 q h1 (fun h3 => h3.elim h2 (Nat.not_le.mpr h1)))) hl
theorem zv_callSl (C : ZC p s m args meth c cc own nL D cy L K N F G) {y : MethodName} {bytes : ByteArray} {maxL n idx : Nat} {rm : Room} {As : List Value} {st0 : List Value} {rt : Option FieldType} {r : Int64} (hM : ZMl l y bytes maxL rt rm D cy L K N F G As I A r I' A') (w1 : Cond.methodLink own idx y ∈ zW) (w2 : Cond.static y ∈ zW) (w4 : Cond.initialized y.cls ∈ zW) (w5 : Cond.code y bytes maxL rt ∈ zW) (hd0 : y.cls ≠ "java/lang/invoke/MethodHandle" ∧ y.cls ≠ "java/lang/invoke/VarHandle" ∧ (parseMethodDescriptor y.desc).map (fun d => d.parameters.length) = some n) (hR : rm.frames + 1 ≤ R.frames ∧ 8 + (maxL + 11) + rm.locals ≤ R.locals) (hrc : rm.cells = 0) (hrs : rm.slots = 0) (hcs : cells ≤ R.cells ∧ slots ≤ R.slots) (hn : As.length = n) (hst : st0 = As.reverse ++ st) (hW : (st.map fun v => v.category).sum ≤ 8) (hd : decode cc pc = .ok (.invokestatic idx, 3)) (hEs : ∀ H H1 : Heap, E H → H.size ≤ H1.size → (∀ q : Nat, q < H.size → q ∉ L → H1[q]? = H[q]?) → E H1) (kk : ZV p l e R s m args below meth c nL D cy L K N F G E cells slots Q I' A' (pc + 3) lv (.long r :: st)) : ZV p l e R s m args below meth c nL D cy L K N F G E cells slots Q I A pc lv st0 := by
  intro H locs ls hP hS hE hl
  refine va_calll (va_runS (As := As) (rest := st) ⟨C.x, C.b, C.ml, C.o, C.w⟩ (hM H.size) (va_cwS n C.w (zGS w1 w2 w4 w5) rfl hrc hrs hd0 hR) ⟨zPre.blind, fun U hU hW => ⟨rfl, by rw [hU], by rw [hU]; exact hP, va_K.moved hW.alike C.k, zNb.warm hW C.nb⟩⟩ rfl hn hl.1 hst (lv_room hW) hd hcs) hS (fun q _ h => z_free hS q h) (z_free hS) (fun x u t H1 locs1 ht hvm hw hB hz1 hk1 hS1 => ?_)
  rw [show zPost D cy L K N F G I' A' t = va_P D vwCl (va_pl L (zM cy K N F G I' A')) t.heap from rfl, ht] at hB
  subst hw
  exact kk H1 locs1 ls hB hS1 (hEs H H1 hE hz1 (fun q h1 h2 => hk1 q h1 (fun h3 => h3.elim h2 (Nat.not_le.mpr h1)))) hl
theorem zv_callVv (C : ZC p s m args meth c cc own nL D cy L K N F G) {y : MethodName} {bytes : ByteArray} {maxL n idx : Nat} {rm : Room} {As : List Value} {st0 : List Value} {rt : Option FieldType}  {a ci Nf : Nat} {T : u_T} (hM : ZMv l y bytes maxL rt rm D cy L K N F G (.ref a :: As) I A I' A') (w1 : Cond.methodLink own idx y ∈ zW) (w2 : Cond.instanceMethod y ∈ zW) (w3 : Cond.selects y.cls y y ∈ zW) (w4 : Cond.initialized y.cls ∈ zW) (w5 : Cond.code y bytes maxL rt ∈ zW) (hd0 : y.cls ≠ "java/lang/invoke/MethodHandle" ∧ y.cls ≠ "java/lang/invoke/VarHandle" ∧ (parseMethodDescriptor y.desc).map (fun d => d.parameters.length) = some n) (hR : rm.frames + 1 ≤ R.frames ∧ 8 + (maxL + 11) + rm.locals ≤ R.locals) (hrc : rm.cells = 0) (hrs : rm.slots = 0) (hcs : cells ≤ R.cells ∧ slots ≤ R.slots) (hk : K a = ci) (h6 : ci < 6) (hc : vwCl[ci]? = some (y.cls, T, Nf)) (hn : As.length = n) (hst : st0 = As.reverse ++ .ref a :: st) (hW : (st.map fun v => v.category).sum ≤ 8) (hd : decode cc pc = .ok (.invokevirtual idx, 3)) (hEs : ∀ H H1 : Heap, E H → H.size ≤ H1.size → (∀ q : Nat, q < H.size → q ∉ L → H1[q]? = H[q]?) → E H1) (kk : ZV p l e R s m args below meth c nL D cy L K N F G E cells slots Q I' A' (pc + 3) lv st) : ZV p l e R s m args below meth c nL D cy L K N F G E cells slots Q I A pc lv st0 := by
  intro H locs ls hP hS hE hl
  obtain ⟨q0, hq⟩ := z_getk (f := zM cy K N F G I A) (zl_in C.z hk (by omega))
  have he : zM cy K N F G I A a = .inr (ci, zF ci F I a) := by simp only [zM, hk, if_pos h6]
  rw [he] at hq
  refine va_callv (va_runV (As := As) (rest := st) ⟨C.x, C.b, C.ml, C.o, C.w⟩ (hM H.size) (cwV n C.w (zGV w1 w2 w3 w4 w5) rfl hrc hrs ⟨rfl, hd0⟩ hR) ⟨zPre.blind, va_recv C.k hP hc hq, fun U hU hW => ⟨rfl, by rw [hU], by rw [hU]; exact hP, va_K.moved hW.alike C.k, zNb.warm hW C.nb⟩⟩ rfl hn hl.1 hst (lv_room hW) hd hcs) hS (fun q _ h => z_free hS q h) (z_free hS) (fun u t H1 locs1 ht hvm hw hB hz1 hk1 hS1 => ?_)
  rw [show zPost D cy L K N F G I' A' t = va_P D vwCl (va_pl L (zM cy K N F G I' A')) t.heap from rfl, ht] at hB
  exact kk H1 locs1 ls hB hS1 (hEs H H1 hE hz1 (fun q h1 h2 => hk1 q h1 (fun h3 => h3.elim h2 (Nat.not_le.mpr h1)))) hl
theorem zv_callSv (C : ZC p s m args meth c cc own nL D cy L K N F G) {y : MethodName} {bytes : ByteArray} {maxL n idx : Nat} {rm : Room} {As : List Value} {st0 : List Value} {rt : Option FieldType}  (hM : ZMv l y bytes maxL rt rm D cy L K N F G As I A I' A') (w1 : Cond.methodLink own idx y ∈ zW) (w2 : Cond.static y ∈ zW) (w4 : Cond.initialized y.cls ∈ zW) (w5 : Cond.code y bytes maxL rt ∈ zW) (hd0 : y.cls ≠ "java/lang/invoke/MethodHandle" ∧ y.cls ≠ "java/lang/invoke/VarHandle" ∧ (parseMethodDescriptor y.desc).map (fun d => d.parameters.length) = some n) (hR : rm.frames + 1 ≤ R.frames ∧ 8 + (maxL + 11) + rm.locals ≤ R.locals) (hrc : rm.cells = 0) (hrs : rm.slots = 0) (hcs : cells ≤ R.cells ∧ slots ≤ R.slots) (hn : As.length = n) (hst : st0 = As.reverse ++ st) (hW : (st.map fun v => v.category).sum ≤ 8) (hd : decode cc pc = .ok (.invokestatic idx, 3)) (hEs : ∀ H H1 : Heap, E H → H.size ≤ H1.size → (∀ q : Nat, q < H.size → q ∉ L → H1[q]? = H[q]?) → E H1) (kk : ZV p l e R s m args below meth c nL D cy L K N F G E cells slots Q I' A' (pc + 3) lv st) : ZV p l e R s m args below meth c nL D cy L K N F G E cells slots Q I A pc lv st0 := by
  intro H locs ls hP hS hE hl
  refine va_callv (va_runS (As := As) (rest := st) ⟨C.x, C.b, C.ml, C.o, C.w⟩ (hM H.size) (va_cwS n C.w (zGS w1 w2 w4 w5) rfl hrc hrs hd0 hR) ⟨zPre.blind, fun U hU hW => ⟨rfl, by rw [hU], by rw [hU]; exact hP, va_K.moved hW.alike C.k, zNb.warm hW C.nb⟩⟩ rfl hn hl.1 hst (lv_room hW) hd hcs) hS (fun q _ h => z_free hS q h) (z_free hS) (fun u t H1 locs1 ht hvm hw hB hz1 hk1 hS1 => ?_)
  rw [show zPost D cy L K N F G I' A' t = va_P D vwCl (va_pl L (zM cy K N F G I' A')) t.heap from rfl, ht] at hB
  exact kk H1 locs1 ls hB hS1 (hEs H H1 hE hz1 (fun q h1 h2 => hk1 q h1 (fun h3 => h3.elim h2 (Nat.not_le.mpr h1)))) hl
theorem zv_iret (C : ZC p s m args meth c cc own nL D cy L K N F G) {r : Int32} (hr : meth.sig.returnType = some .int) (hd : decode cc pc = .ok (.ireturn, 1)) : ZV p l e R s m args below meth c nL D cy L K N F G E cells slots (MQ below (va_Qi (fun x (_ : Unit) => x = r) (fun _ t => zPost D cy L K N F G I A t) (zA L s.heap.size)) args s cells slots (zA L s.heap.size)) I A pc lv [.int r] := by
  intro H locs ls hP hS hE hl
  exact W.iret C.x C.b hr (fun t ht hW => ⟨⟨r, (), rfl, rfl, (show va_P D vwCl (va_pl L (zM cy K N F G I A)) t.heap by rw [ht]; exact hP)⟩, hS.F ht⟩) hS.2.2 hd C.lk
theorem zv_lret (C : ZC p s m args meth c cc own nL D cy L K N F G) {r : Int64} (hr : meth.sig.returnType = some .long) (hd : decode cc pc = .ok (.lreturn, 1)) : ZV p l e R s m args below meth c nL D cy L K N F G E cells slots (MQ below (va_Ql (fun x (_ : Unit) => x = r) (fun _ t => zPost D cy L K N F G I A t) (zA L s.heap.size)) args s cells slots (zA L s.heap.size)) I A pc lv [.long r] := by
  intro H locs ls hP hS hE hl
  exact W.lret C.x C.b hr (fun t ht hW => ⟨⟨r, (), rfl, rfl, (show va_P D vwCl (va_pl L (zM cy K N F G I A)) t.heap by rw [ht]; exact hP)⟩, hS.F ht⟩) hS.2.2 hd C.lk
theorem zv_vret (C : ZC p s m args meth c cc own nL D cy L K N F G)  (hr : meth.sig.returnType = none) (hd : decode cc pc = .ok (.return_, 1)) : ZV p l e R s m args below meth c nL D cy L K N F G E cells slots (MQ below (va_Qv (fun _ : Unit => True) (fun _ t => zPost D cy L K N F G I A t) (zA L s.heap.size)) args s cells slots (zA L s.heap.size)) I A pc lv [] := by
  intro H locs ls hP hS hE hl
  exact W.vret C.x C.b hr (fun t ht hW => ⟨⟨(), rfl, trivial, (show va_P D vwCl (va_pl L (zM cy K N F G I A)) t.heap by rw [ht]; exact hP)⟩, hS.F ht⟩) hS.2.2 hd C.lk
theorem zv_zret (C : ZC p s m args meth c cc own nL D cy L K N F G) {r : Int32} {ty : FieldType} (hr : meth.sig.returnType = some ty) (hn : narrow ty (.int r) = .int r) (hd : decode cc pc = .ok (.ireturn, 1)) : ZV p l e R s m args below meth c nL D cy L K N F G E cells slots (MQ below (va_Qi (fun x (_ : Unit) => x = r) (fun _ t => zPost D cy L K N F G I A t) (zA L s.heap.size)) args s cells slots (zA L s.heap.size)) I A pc lv [.int r] := by
  intro H locs ls hP hS hE hl
  exact W.zret C.x C.b hr hn (fun t ht hW => ⟨⟨r, (), rfl, rfl, (show va_P D vwCl (va_pl L (zM cy K N F G I A)) t.heap by rw [ht]; exact hP)⟩, hS.F ht⟩) hS.2.2 hd C.lk

/-- one array of the method's own, beside the pool -/
def zE1 (D : va_G) (ca : ClassId) (L : List Nat) (sz q n : Nat) (w : Nat → Int32) : Heap → Prop := fun H => va_P D vwCl [(q, .inl (ca, n, .inl w))] H ∧ q ∉ L ∧ sz ≤ q
theorem zE1.keep {ca : ClassId} {sz q n : Nat} {w : Nat → Int32} : ∀ H H1 : Heap, zE1 D ca L sz q n w H → H.size ≤ H1.size → (∀ q : Nat, q < H.size → q ∉ L → H1[q]? = H[q]?) → zE1 D ca L sz q n w H1 := fun H H1 h _ hk => by
  obtain ⟨h1, h2, h3⟩ := h
  refine ⟨h1.kept (fun k x hx => ?_), h2, h3⟩
  have hlt := (h1 k x hx).lt
  have : x = (q, .inl (ca, n, .inl w)) := by
    cases k with
    | zero => simp at hx; exact hx.symm
    | succ k => simp at hx
  subst this
  exact hk _ hlt h2
theorem zv_newa (C : ZC p s m args meth c cc own nL D cy L K N F G) (harr : Cond.arrayClass .int ∈ zW) (hcells : cells + 1 ≤ R.cells) (hslots : slots + 10 ≤ R.slots) (hd : decode cc pc = .ok (.newarray .int, 2)) (kk : ∀ q : Nat, ZV p l e R s m args below meth c nL D cy L K N F G (zE1 D (cy 6) L s.heap.size q 10 (fun _ => 0)) (cells + 1) (slots + 10) Q I A (pc + 2) lv (.ref q :: st)) : ZW p l e R s m args below meth c nL D cy L K N F G cells slots Q I A pc lv (.int 10 :: st) := by
  intro H locs ls hP hS hl
  refine va_newa (atype := .int) (ty := .int) (N' := 10) (a0 := (10, .inl (fun _ => 0))) C.x C.b (C.w _ harr) rfl C.k hP (C.d _) hS (fun q h => Or.inr h) (fun _ => rfl) (by decide) (by decide) (by decide) hcells hslots hd (fun q cA H1 hK1 hP1 hD1 hS1 => ?_)
  have h1 := (hK1.2 (zTys cy).length (cA, .int) (by rw [List.getElem?_append_right (Nat.le_refl _), Nat.sub_self]; rfl)).2
  have h2 := (C.k.2 0 (cy 6, .int) rfl).2
  have h3 : cA = cy 6 := by
    have e1 : s.vm.findClass ("[" ++ FieldType.int.toString) = some cA := h1
    have e2 : s.vm.findClass ("[" ++ FieldType.int.toString) = some (cy 6) := h2
    rw [e1] at e2
    exact Option.some.inj e2
  subst h3
  have hPl : va_P D vwCl (va_pl L (zM cy K N F G I A)) H1 := fun k x hx => hP1 k x (by rw [List.getElem?_append_left (List.getElem?_eq_some_iff.mp hx).1]; exact hx)
  have hq1 : va_P D vwCl [(q, .inl (cy 6, 10, .inl (fun _ => 0)))] H1 := fun k x hx => by
    cases k with
    | zero => exact hP1 (va_pl L (zM cy K N F G I A)).length x (by rw [List.getElem?_append_right (Nat.le_refl _), Nat.sub_self]; exact hx)
    | succ k => simp at hx
  have hqL : q ∉ L := fun h => by
    obtain ⟨k, hk⟩ := z_getk (f := zM cy K N F G I A) h
    have hlt := (List.getElem?_eq_some_iff.mp hk).1
    have h4 := hD1.1 k (va_pl L (zM cy K N F G I A)).length (q, zM cy K N F G I A q) (q, .inl (cy 6, 10, .inl (fun _ => 0))) (by rw [List.getElem?_append_left hlt]; exact hk) (by rw [List.getElem?_append_right (Nat.le_refl _), Nat.sub_self]; rfl) rfl
    omega
  have hqs : s.heap.size ≤ q := ((hD1.2 (va_pl L (zM cy K N F G I A)).length (q, .inl (cy 6, 10, .inl (fun _ => 0))) (by rw [List.getElem?_append_right (Nat.le_refl _), Nat.sub_self]; rfl)).elim (fun h => absurd h hqL) id)
  exact kk q H1 locs ls hPl hS1 ⟨hq1, hqL, hqs⟩ hl
theorem zv_wld (C : ZC p s m args meth c cc own nL D cy L K N F G) {q n : Nat} {w : Nat → Int32} {i : Int32} (hin : vp_in i n) (hd : decode cc pc = .ok (.iaload, 1)) (kk : ZV p l e R s m args below meth c nL D cy L K N F G (zE1 D (cy 6) L s.heap.size q n w) cells slots Q I A (pc + 1) lv (.int (w i.toNatClampNeg) :: st)) : ZV p l e R s m args below meth c nL D cy L K N F G (zE1 D (cy 6) L s.heap.size q n w) cells slots Q I A pc lv (.int i :: .ref q :: st) := by
  intro H locs ls hP hS hE hl
  exact va_iald C.x C.b C.k hE.1 0 0 rfl rfl hin hd (kk H locs ls hP hS hE hl)
theorem zv_wst (C : ZC p s m args meth c cc own nL D cy L K N F G) {q n : Nat} {w : Nat → Int32} {i x : Int32} (hin : vp_in i n) (hd : decode cc pc = .ok (.iastore, 1)) (kk : ZV p l e R s m args below meth c nL D cy L K N F G (zE1 D (cy 6) L s.heap.size q n (upd w i.toNatClampNeg x)) cells slots Q I A (pc + 1) lv st) : ZV p l e R s m args below meth c nL D cy L K N F G (zE1 D (cy 6) L s.heap.size q n w) cells slots Q I A pc lv (.int x :: .int i :: .ref q :: st) := by
  intro H locs ls hP hS hE hl
  obtain ⟨hE1, hqL, hqs⟩ := hE
  have hPa := va_P.app hE1 hP
  have hDa : va_D (zA L s.heap.size) ([(q, .inl (cy 6, n, .inl w))] ++ va_pl L (zM cy K N F G I A)) := va_D.app ⟨fun i j x y hi hj _ => by
      cases i with
      | zero => cases j with
        | zero => rfl
        | succ j => simp at hj
      | succ i => simp at hi, fun k x hx => by
      cases k with
      | zero => simp at hx; rw [← hx]; exact Or.inr hqs
      | succ k => simp at hx⟩ (C.d _) (fun i j x y hi hj hxy => by
      cases i with
      | zero =>
        simp at hi
        obtain ⟨z, hz, hz2⟩ := List.mem_map.mp (List.mem_of_getElem? hj)
        rw [← hi, ← hz2] at hxy
        have : q = z := hxy
        exact hqL (this ▸ hz)
      | succ i => simp at hi)
  refine va_iast C.x C.b C.k hPa hDa hS 0 0 rfl rfl hin hd (fun H1 locs1 hP1 hD1 hS1 => ?_)
  refine kk H1 locs1 ls (fun k x hx => hP1 (k + 1) x hx) hS1 ⟨fun k x hx => ?_, hqL, hqs⟩ hl
  cases k with
  | zero => exact hP1 0 x hx
  | succ k => simp at hx
end ZKV
/-! the law's own methods: one that reads the script, one that makes an array -/
def zPreS (D : va_G) (cy : Nat → ClassId) (L : List Nat) (K N : Nat → Nat) (F G : Nat → Nat → Nat) (sb Ln : Nat) (xs : Nat → Int32) (I A : zH) (sz : Nat) (U : State) : Prop := zPre D cy L K N F G I A sz U ∧ va_X sb Ln xs U U.heap ∧ sb < sz
theorem zPreS.blind {D : va_G} {cy : Nat → ClassId} {L : List Nat} {K N : Nat → Nat} {F G : Nat → Nat → Nat} {sb Ln : Nat} {xs : Nat → Int32} {I A : zH} {sz : Nat} {avs : List Value} : FrameBlind (va_Pc avs (zPreS D cy L K N F G sb Ln xs I A sz)) := fun a U g mk q => by
  obtain ⟨q0, ⟨q1, qP, qK, qN⟩, qX, qs⟩ := q
  exact ⟨q0, ⟨q1, qP, va_K.moved (u := U) (U := U.calling g mk a) (Vm.Alike.refl U.vm) qK, qN⟩, va_X.moved (u := U) (U := U.calling g mk a) (Vm.Alike.refl U.vm) qX, qs⟩
def ZMs (l : Launch) (y : MethodName) (b : ByteArray) (n : Nat) (ret : Option FieldType) (rm : Room) (D : va_G) (cy : Nat → ClassId) (L : List Nat) (K N : Nat → Nat) (F G : Nat → Nat → Nat) (avs : List Value) (sb Ln : Nat) (xs : Nat → Int32) (I A : zH) (r : Int32) (I' A' : zH) : Prop := ∀ sz : Nat, Met l y (.code y b n ret :: zW) rm (va_Pc avs (zPreS D cy L K N F G sb Ln xs I A sz)) (va_Qi (fun x (_ : Unit) => x = r) (fun _ t => zPost D cy L K N F G I' A' t) (zA L sz)) 0 0 (zA L sz)
def ZMx (l : Launch) (y : MethodName) (b : ByteArray) (n : Nat) (ret : Option FieldType) (rm : Room) (mc ms : Nat) (D : va_G) (cy : Nat → ClassId) (L : List Nat) (K N : Nat → Nat) (F G : Nat → Nat → Nat) (avs : List Value) (I A : zH) (r : Int32) (I' A' : zH) : Prop := ∀ sz : Nat, Met l y (.code y b n ret :: zW) rm (va_Pc avs (zPre D cy L K N F G I A sz)) (va_Qi (fun x (_ : Unit) => x = r) (fun _ t => zPost D cy L K N F G I' A' t) (zA L sz)) mc ms (zA L sz)
section ZKL
variable {p : Program} {l : Launch} {e : Env} {R : Room} {s : State} {m : MethodId} {args : Array Value} {below : List Frame} {meth : Method} {c : Code} {cells slots : Nat} {Q : State → Prop}
variable {cc : ByteArray} {own : String} {nL : Nat} {D : va_G} {cy : Nat → ClassId} {L : List Nat} {K N : Nat → Nat} {F G : Nat → Nat → Nat}
variable {I A I' A' : zH} {pc : Nat} {lv lv' : List (Nat × Value)} {st : List Value}
theorem ZMs.of {y : MethodName} {ret : Option FieldType} {rm : Room} {avs : List Value} {sb Ln : Nat} {xs : Nat → Int32} {r : Int32} (hZ : ZL L K N F G) (hrc : rm.cells = 0) (hrs : rm.slots = 0) (hy : plainName y.cls = true) (hlen : (lg_sl avs).length ≤ nL) (body : ∀ (p : Program) (e : Env) (s : State) (m : MethodId) (args : Array Value) (below : List Frame) (meth : Method) (c : Code), ZC p s m args meth c cc y.cls nL D cy L K N F G → va_X sb Ln xs s s.heap → sb < s.heap.size → meth.sig.returnType = ret → ZW p l e rm s m args below meth c nL D cy L K N F G 0 0 (MQ below (va_Qi (fun x (_ : Unit) => x = r) (fun _ t => zPost D cy L K N F G I' A' t) (zA L s.heap.size)) args s 0 0 (zA L s.heap.size)) I A 0 (lv_args 0 avs) []) : ZMs l y cc nL ret rm D cy L K N F G avs sb Ln xs I A r I' A' := by
  intro sz
  refine Met.ofW (cc := cc) (maxL := nL) (ret := ret) hy rfl ?_
  intro p e s m args below meth c s₁ B hml hv
  obtain ⟨rfl, ⟨hsz, hP, hK, hNb⟩, hX, hXs⟩ := hv
  subst hsz
  have hts := atoms_spec (ws := .code y cc nL ret :: zW) B.pre
  have C : ZC p s m avs.toArray meth c cc y.cls nL D cy L K N F G := ⟨B.exec, B.bytes, hml, fun w h => hts w (List.mem_cons_of_mem _ h), findClass_of_methodNamed B.named, B.notSynchronized, hK, hZ, hNb⟩
  rw [lg_entry_eq]
  exact body p e s m avs.toArray below meth c C hX hXs B.returns s.heap [] _ hP va_S.rf (lv_entry avs hlen)
theorem ZMx.of {y : MethodName} {ret : Option FieldType} {rm : Room} {mc ms : Nat} {avs : List Value} {r : Int32} (hZ : ZL L K N F G) (hrc : rm.cells = mc) (hrs : rm.slots = ms) (hy : plainName y.cls = true) (hlen : (lg_sl avs).length ≤ nL) (body : ∀ (p : Program) (e : Env) (s : State) (m : MethodId) (args : Array Value) (below : List Frame) (meth : Method) (c : Code), ZC p s m args meth c cc y.cls nL D cy L K N F G → meth.sig.returnType = ret → ZW p l e rm s m args below meth c nL D cy L K N F G 0 0 (MQ below (va_Qi (fun x (_ : Unit) => x = r) (fun _ t => zPost D cy L K N F G I' A' t) (zA L s.heap.size)) args s mc ms (zA L s.heap.size)) I A 0 (lv_args 0 avs) []) : ZMx l y cc nL ret rm mc ms D cy L K N F G avs I A r I' A' := by
  intro sz
  refine Met.ofW (cc := cc) (maxL := nL) (ret := ret) hy rfl ?_
  intro p e s m args below meth c s₁ B hml hv
  obtain ⟨rfl, hsz, hP, hK, hNb⟩ := hv
  subst hsz
  have hts := atoms_spec (ws := .code y cc nL ret :: zW) B.pre
  have C : ZC p s m avs.toArray meth c cc y.cls nL D cy L K N F G := ⟨B.exec, B.bytes, hml, fun w h => hts w (List.mem_cons_of_mem _ h), findClass_of_methodNamed B.named, B.notSynchronized, hK, hZ, hNb⟩
  rw [lg_entry_eq]
  exact body p e s m avs.toArray below meth c C B.returns s.heap [] _ hP va_S.rf (lv_entry avs hlen)
theorem zr_callC (C : ZC p s m args meth c cc own nL D cy L K N F G) {y : MethodName} {bytes : ByteArray} {maxL n idx : Nat} {rm : Room} {As : List Value} {st0 : List Value} {rt : Option FieldType} {sb Ln : Nat} {xs : Nat → Int32} {r : Int32} (hM : ZMs l y bytes maxL rt rm D cy L K N F G As sb Ln xs I A r I' A') (hX : va_X sb Ln xs s s.heap) (hXb : sb < s.heap.size) (hXL : sb ∉ L) (w1 : Cond.methodLink own idx y ∈ zW) (w2 : Cond.static y ∈ zW) (w4 : Cond.initialized y.cls ∈ zW) (w5 : Cond.code y bytes maxL rt ∈ zW) (hd0 : y.cls ≠ "java/lang/invoke/MethodHandle" ∧ y.cls ≠ "java/lang/invoke/VarHandle" ∧ (parseMethodDescriptor y.desc).map (fun d => d.parameters.length) = some n) (hR : rm.frames + 1 ≤ R.frames ∧ 8 + (maxL + 11) + rm.locals ≤ R.locals) (hrc : rm.cells = 0) (hrs : rm.slots = 0) (hcs : cells ≤ R.cells ∧ slots ≤ R.slots) (hn : As.length = n) (hst : st0 = As.reverse ++ st) (hW : (st.map fun v => v.category).sum ≤ 8) (hd : decode cc pc = .ok (.invokestatic idx, 3)) (kk : ZW p l e R s m args below meth c nL D cy L K N F G cells slots Q I' A' (pc + 3) lv (.int r :: st)) : ZW p l e R s m args below meth c nL D cy L K N F G cells slots Q I A pc lv st0 := by
  intro H locs ls hP hS hl
  refine va_calli (va_runS (As := As) (rest := st) ⟨C.x, C.b, C.ml, C.o, C.w⟩ (hM H.size) (va_cwS n C.w (zGS w1 w2 w4 w5) rfl hrc hrs hd0 hR) ⟨zPreS.blind, fun U hU hW => ⟨rfl, ⟨by rw [hU], by rw [hU]; exact hP, va_K.moved hW.alike C.k, zNb.warm hW C.nb⟩, by rw [hU]; exact va_X.moved hW.alike (hX.kept (hS.2.1 sb hXb (fun h => h.elim hXL (Nat.not_le.mpr hXb)))), Nat.lt_of_lt_of_le hXb hS.1⟩⟩ rfl hn hl.1 hst (lv_room hW) hd hcs) hS (fun q _ h => z_free hS q h) (z_free hS) (fun x u t H1 locs1 ht hvm hw hB hz1 hk1 hS1 => ?_)
  rw [show zPost D cy L K N F G I' A' t = va_P D vwCl (va_pl L (zM cy K N F G I' A')) t.heap from rfl, ht] at hB
  subst hw
  exact kk H1 locs1 ls hB hS1 hl
theorem zr_callX (C : ZC p s m args meth c cc own nL D cy L K N F G) {y : MethodName} {bytes : ByteArray} {maxL n idx mc ms : Nat} {rm : Room} {As : List Value} {st0 : List Value} {rt : Option FieldType} {r : Int32} (hM : ZMx l y bytes maxL rt rm mc ms D cy L K N F G As I A r I' A') (w1 : Cond.methodLink own idx y ∈ zW) (w2 : Cond.static y ∈ zW) (w4 : Cond.initialized y.cls ∈ zW) (w5 : Cond.code y bytes maxL rt ∈ zW) (hd0 : y.cls ≠ "java/lang/invoke/MethodHandle" ∧ y.cls ≠ "java/lang/invoke/VarHandle" ∧ (parseMethodDescriptor y.desc).map (fun d => d.parameters.length) = some n) (hR : rm.frames + 1 ≤ R.frames ∧ 8 + (maxL + 11) + rm.locals ≤ R.locals) (hrc : rm.cells = mc) (hrs : rm.slots = ms) (hcs : cells + mc ≤ R.cells ∧ slots + ms ≤ R.slots) (hn : As.length = n) (hst : st0 = As.reverse ++ st) (hW : (st.map fun v => v.category).sum ≤ 8) (hd : decode cc pc = .ok (.invokestatic idx, 3)) (kk : ZW p l e R s m args below meth c nL D cy L K N F G (cells + mc) (slots + ms) Q I' A' (pc + 3) lv (.int r :: st)) : ZW p l e R s m args below meth c nL D cy L K N F G cells slots Q I A pc lv st0 := by
  intro H locs ls hP hS hl
  refine va_calli (va_runS (As := As) (rest := st) ⟨C.x, C.b, C.ml, C.o, C.w⟩ (hM H.size) (va_cwS n C.w (zGS w1 w2 w4 w5) rfl hrc hrs hd0 hR) ⟨zPre.blind, fun U hU hW => ⟨rfl, by rw [hU], by rw [hU]; exact hP, va_K.moved hW.alike C.k, zNb.warm hW C.nb⟩⟩ rfl hn hl.1 hst (lv_room hW) hd hcs) hS (fun q _ h => z_free hS q h) (z_free hS) (fun x u t H1 locs1 ht hvm hw hB hz1 hk1 hS1 => ?_)
  rw [show zPost D cy L K N F G I' A' t = va_P D vwCl (va_pl L (zM cy K N F G I' A')) t.heap from rfl, ht] at hB
  subst hw
  exact kk H1 locs1 ls hB hS1 hl
end ZKL
