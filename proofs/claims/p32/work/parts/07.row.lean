def g_X4_hasPrint_2 (F G : Nat → Nat → Nat) (v0 : Nat) (v1 : Int32) (v2 : Int32) (I : zH) (A : zH) : Option ((Int32) ⊕ ((Int32) ⊕ (Int32))) :=
  if (I v0 3) ≤ v2 then (
    some (.inr (.inl v2))
  ) else (
    zck (¬ (v2 < 0 ∨ 9 ≤ v2.toNatClampNeg)) <|
    if (A (F v0 1) v2.toNatClampNeg) = v1 then (
      some (.inr (.inr 1))
    ) else (
      some (.inl (v2 + 1))
    )
  )
def f_X4_hasPrint (F G : Nat → Nat → Nat) (h0 : Nat) (p0 : Int32) (I A : zH) : Option (Int32) :=
  zs (fun q => q) (zIt (fun x => g_X4_hasPrint_2 F G h0 p0 x I A) 2000 0) fun x3 =>
   some 0
set_option maxHeartbeats 4000000 in
set_option maxRecDepth 100000 in
theorem wb_X4_hasPrint_2 (l : Launch) (D : va_G) (cy : Nat → ClassId) {L : List Nat} {K N : Nat → Nat} {F G : Nat → Nat → Nat} (hZ : ZL L K N F G) {p : Program} {e : Env} {R : Room} {s : State} {m : MethodId} {args : Array Value} {below : List Frame} {meth : Method} {c : Code} {cells slots : Nat} {r : Int32} (C : ZC p s m args meth c cX4_hasPrint yX4_hasPrint.cls 3 D cy L K N F G) (hRf : 0 ≤ R.frames) (hRl : 0 ≤ R.locals) (hRc : cells ≤ R.cells ∧ slots ≤ R.slots) (hr : meth.sig.returnType = (some .boolean)) (v0 : Nat) (v1 : Int32) (k0 : K v0 = 4) (I : zH) (A : zH) (v2 : Int32) (o : (Int32) ⊕ ((Int32) ⊕ (Int32))) (h : g_X4_hasPrint_2 F G v0 v1 v2 I A = some o)
    (hg : ∀ y : Int32, o = .inl y → ZW p l e R s m args below meth c 3 D cy L K N F G cells slots (MQ below (va_Qi (fun x (_ : Unit) => x = r) (fun _ t => zPost D cy L K N F G I A t) (zA L s.heap.size)) args s cells slots (zA L s.heap.size)) I A 2 [(0, .ref v0), (1, .int v1), (2, .int y)] [])
    (hx : ∀ y : Int32, o = .inr (.inl y) → ZW p l e R s m args below meth c 3 D cy L K N F G cells slots (MQ below (va_Qi (fun x (_ : Unit) => x = r) (fun _ t => zPost D cy L K N F G I A t) (zA L s.heap.size)) args s cells slots (zA L s.heap.size)) I A 28 [(0, .ref v0), (1, .int v1), (2, .int y)] [])
    (hX : ∀ y : Int32, o = .inr (.inr y) → y = r) : ZW p l e R s m args below meth c 3 D cy L K N F G cells slots (MQ below (va_Qi (fun x (_ : Unit) => x = r) (fun _ t => zPost D cy L K N F G I A t) (zA L s.heap.size)) args s cells slots (zA L s.heap.size)) I A 2 [(0, .ref v0), (1, .int v1), (2, .int v2)] [] := by
  unfold g_X4_hasPrint_2 at h
  refine zr_iload_n C 2 rfl rfl dX4_hasPrint_2 ?_
  refine zr_aload_n C 0 rfl rfl dX4_hasPrint_3 ?_
  refine zr_get (ci := 4) (k := 3) (v := .int (I v0 3)) C k0 (by decide) rfl zinX4 (by decide) wd_33 rfl dX4_hasPrint_4 ?_
  refine zr_icmp_ge (tgt := 28) C (by decide) dX4_hasPrint_7 (fun hc1 => ?_) (fun hc1 => ?_)
  · have h := zif_t hc1 h
    obtain rfl := zso h
    refine zr_lv (lv' := [(0, .ref v0), (1, .int v1), (2, .int v2)]) C [0, 1, 2] rfl ?_
    exact hx _ rfl
  · have h := zif_f hc1 h
    refine zr_aload_n C 0 rfl rfl dX4_hasPrint_10 ?_
    refine zr_get (ci := 4) (k := 1) (v := .ref (F v0 1)) C k0 (by decide) rfl zinX4 (by decide) wd_30 rfl dX4_hasPrint_11 ?_
    refine zr_iload_n C 2 rfl rfl dX4_hasPrint_14 ?_
    obtain ⟨hc2, h⟩ := zck_e h
    refine zr_iald C (zt41 hZ k0).1 (zt41 hZ k0).2 hc2 dX4_hasPrint_15 ?_
    refine zr_iload_n C 1 rfl rfl dX4_hasPrint_16 ?_
    refine zr_icmp_ne (tgt := 22) C (by decide) dX4_hasPrint_17 (fun hc3 => ?_) (fun hc3 => ?_)
    · have h := zif_f hc3 h
      refine zr_iinc (v := v2 + 1) (lv' := [(2, .int (v2 + 1)), (0, .ref v0), (1, .int v1)]) C 2 rfl rfl (by decide) rfl dX4_hasPrint_22 ?_
      refine zr_goto (tgt := 2) C (by decide) dX4_hasPrint_25 ?_
      obtain rfl := zso h
      refine zr_lv (lv' := [(0, .ref v0), (1, .int v1), (2, .int (v2 + 1))]) C [1, 2, 0] rfl ?_
      exact hg _ rfl
    · have h := zif_t hc3 h
      refine zr_iconst (v := 1) C (by decide) dX4_hasPrint_20 ?_
      obtain rfl := zso h
      obtain rfl := hX _ rfl
      exact zr_zret C hr rfl dX4_hasPrint_21
set_option maxHeartbeats 4000000 in
set_option maxRecDepth 100000 in
theorem w_X4_hasPrint_2 (l : Launch) (D : va_G) (cy : Nat → ClassId) {L : List Nat} {K N : Nat → Nat} {F G : Nat → Nat → Nat} (hZ : ZL L K N F G) {p : Program} {e : Env} {R : Room} {s : State} {m : MethodId} {args : Array Value} {below : List Frame} {meth : Method} {c : Code} {cells slots : Nat} {r : Int32} (C : ZC p s m args meth c cX4_hasPrint yX4_hasPrint.cls 3 D cy L K N F G) (hRf : 0 ≤ R.frames) (hRl : 0 ≤ R.locals) (hRc : cells ≤ R.cells ∧ slots ≤ R.slots) (hr : meth.sig.returnType = (some .boolean)) (v0 : Nat) (v1 : Int32) (k0 : K v0 = 4) (I : zH) (A : zH) (n : Nat) (x : Int32) (o : (Int32) ⊕ (Int32)) (h : zIt (fun x => g_X4_hasPrint_2 F G v0 v1 x I A) n x = some o)
    (hx : ∀ y : Int32, o = .inl y → ZW p l e R s m args below meth c 3 D cy L K N F G cells slots (MQ below (va_Qi (fun x (_ : Unit) => x = r) (fun _ t => zPost D cy L K N F G I A t) (zA L s.heap.size)) args s cells slots (zA L s.heap.size)) I A 28 [(0, .ref v0), (1, .int v1), (2, .int y)] []) (hX : ∀ y : Int32, o = .inr y → y = r) : ZW p l e R s m args below meth c 3 D cy L K N F G cells slots (MQ below (va_Qi (fun x (_ : Unit) => x = r) (fun _ t => zPost D cy L K N F G I A t) (zA L s.heap.size)) args s cells slots (zA L s.heap.size)) I A 2 [(0, .ref v0), (1, .int v1), (2, .int x)] [] := by
  induction n generalizing x with
  | zero => cases h
  | succ n ih =>
    unfold zIt at h
    cases hb : g_X4_hasPrint_2 F G v0 v1 x I A with
    | none => rw [hb] at h; cases h
    | some q =>
      rw [hb] at h
      refine wb_X4_hasPrint_2 l D cy hZ C hRf hRl hRc hr v0 v1 k0 I A x q hb (fun y hy => ?_) (fun y hy => ?_) (fun y hy => ?_)
      · subst hy; exact ih y h
      · subst hy; cases h; exact hx y rfl
      · subst hy; cases h; exact hX y rfl
set_option maxHeartbeats 4000000 in
set_option maxRecDepth 100000 in
theorem c_X4_hasPrint (l : Launch) (D : va_G) (cy : Nat → ClassId) {L : List Nat} {K N : Nat → Nat} {F G : Nat → Nat → Nat} (hZ : ZL L K N F G) (h0 : Nat) (p0 : Int32) (k_h0 : K h0 = 4) (I A : zH) {r : Int32} (h : f_X4_hasPrint F G h0 p0 I A = some r) : ZMi l yX4_hasPrint cX4_hasPrint 3 (some .boolean) { frames := 0, cells := 0, slots := 0, locals := 0 } D cy L K N F G [.ref h0, .int p0] I A r I A := by
  refine ZMi.of (nL := 3) hZ rfl rfl (by decide) (Nat.le_of_ble_eq_true rfl) (fun p e s m args below meth c C hr => ?_)
  unfold f_X4_hasPrint at h
  refine zr_lv (lv' := [(0, .ref h0), (1, .int p0)]) C [0, 1] rfl ?_
  refine zr_iconst (v := 0) C (by decide) dX4_hasPrint_0 ?_
  refine zr_istore_n (lv' := [(2, .int 0), (0, .ref h0), (1, .int p0)]) C rfl (by decide) rfl dX4_hasPrint_1 ?_
  refine zr_lv (lv' := [(0, .ref h0), (1, .int p0), (2, .int 0)]) C [1, 2, 0] rfl ?_
  obtain ⟨x3, h2, h⟩ | ⟨x3, h2, h⟩ := zs_e h
  · refine w_X4_hasPrint_2 l D cy hZ C (Nat.le_of_ble_eq_true rfl) (Nat.le_of_ble_eq_true rfl) ⟨Nat.le_of_ble_eq_true rfl, Nat.le_of_ble_eq_true rfl⟩ hr h0 p0 k_h0 I A 2000 0 (.inl x3) h2 (fun y hy => ?_) (fun q hq => by cases hq)
    cases hy
    obtain ⟨i1, rfl⟩ : ∃ z, z = x3 := ⟨_, rfl⟩
    refine zr_iconst (v := 0) C (by decide) dX4_hasPrint_28 ?_
    obtain rfl := zso h
    exact zr_zret C hr rfl dX4_hasPrint_29
  · refine w_X4_hasPrint_2 l D cy hZ C (Nat.le_of_ble_eq_true rfl) (Nat.le_of_ble_eq_true rfl) ⟨Nat.le_of_ble_eq_true rfl, Nat.le_of_ble_eq_true rfl⟩ hr h0 p0 k_h0 I A 2000 0 (.inr x3) h2 (fun y hy => by cases hy) (fun q hq => ?_)
    cases hq
    exact h

def g_X4_shareWith_23 (F G : Nat → Nat → Nat) (v0 : Nat) (v1 : Nat) (v2 : Int32) (v3 : Int32) (v4 : Int32) (I : zH) (A : zH) : Option ((Int32 × Int32) ⊕ (Int32 × Int32)) :=
  if (I v0 3) ≤ v4 then (
    some (.inr (v3, v4))
  ) else (
    zck (¬ (v4 < 0 ∨ 9 ≤ v4.toNatClampNeg)) <|
    zb (f_X4_hasPrint F G v1 (A (F v0 1) v4.toNatClampNeg) I A) fun r3 =>
    if r3 = 0 then (
      some (.inl (v3, v4 + 1))
    ) else (
      some (.inl (v3 + 1, v4 + 1))
    )
  )
def f_X4_shareWith (F G : Nat → Nat → Nat) (h0 : Nat) (r0 : Nat) (I A : zH) : Option (Int32) :=
  if (if (I r0 3) < (I h0 3) then (I r0 3) else (I h0 3)) = 0 then (
    some 0
  ) else (
    zb2 (zIt (fun x => g_X4_shareWith_23 F G h0 r0 (if (I r0 3) < (I h0 3) then (I r0 3) else (I h0 3)) x.1 x.2 I A) 2000 (0, 0)) fun i2 i3 =>
    zck (¬ (if (I r0 3) < (I h0 3) then (I r0 3) else (I h0 3)) = 0) <|
    some ((i2 * 100) / (if (I r0 3) < (I h0 3) then (I r0 3) else (I h0 3)))
  )
set_option maxHeartbeats 4000000 in
set_option maxRecDepth 100000 in
theorem wb_X4_shareWith_23 (l : Launch) (D : va_G) (cy : Nat → ClassId) {L : List Nat} {K N : Nat → Nat} {F G : Nat → Nat → Nat} (hZ : ZL L K N F G) {p : Program} {e : Env} {R : Room} {s : State} {m : MethodId} {args : Array Value} {below : List Frame} {meth : Method} {c : Code} {cells slots : Nat} {Q : State → Prop} (C : ZC p s m args meth c cX4_shareWith yX4_shareWith.cls 5 D cy L K N F G) (hRf : 1 ≤ R.frames) (hRl : 22 ≤ R.locals) (hRc : cells ≤ R.cells ∧ slots ≤ R.slots)  (v0 : Nat) (v1 : Nat) (v2 : Int32) (k0 : K v0 = 4) (k1 : K v1 = 4) (I : zH) (A : zH) (v3 : Int32) (v4 : Int32) (o : (Int32 × Int32) ⊕ (Int32 × Int32)) (h : g_X4_shareWith_23 F G v0 v1 v2 v3 v4 I A = some o)
    (hg : ∀ y : Int32 × Int32, o = .inl y → ZW p l e R s m args below meth c 5 D cy L K N F G cells slots Q I A 23 [(0, .ref v0), (1, .ref v1), (2, .int v2), (3, .int y.1), (4, .int y.2)] [])
    (hx : ∀ y : Int32 × Int32, o = .inr y → ZW p l e R s m args below meth c 5 D cy L K N F G cells slots Q I A 55 [(0, .ref v0), (1, .ref v1), (2, .int v2), (3, .int y.1), (4, .int y.2)] []) : ZW p l e R s m args below meth c 5 D cy L K N F G cells slots Q I A 23 [(0, .ref v0), (1, .ref v1), (2, .int v2), (3, .int v3), (4, .int v4)] [] := by
  unfold g_X4_shareWith_23 at h
  refine zr_iload C 4 rfl dX4_shareWith_23 ?_
  refine zr_aload_n C 0 rfl rfl dX4_shareWith_25 ?_
  refine zr_get (ci := 4) (k := 3) (v := .int (I v0 3)) C k0 (by decide) rfl zinX4 (by decide) wd_33 rfl dX4_shareWith_26 ?_
  refine zr_icmp_ge (tgt := 55) C (by decide) dX4_shareWith_29 (fun hc1 => ?_) (fun hc1 => ?_)
  · have h := zif_t hc1 h
    obtain rfl := zso h
    refine zr_lv (lv' := [(0, .ref v0), (1, .ref v1), (2, .int v2), (3, .int v3), (4, .int v4)]) C [0, 1, 2, 3, 4] rfl ?_
    exact hx _ rfl
  · have h := zif_f hc1 h
    refine zr_aload_n C 1 rfl rfl dX4_shareWith_32 ?_
    refine zr_aload_n C 0 rfl rfl dX4_shareWith_33 ?_
    refine zr_get (ci := 4) (k := 1) (v := .ref (F v0 1)) C k0 (by decide) rfl zinX4 (by decide) wd_30 rfl dX4_shareWith_34 ?_
    refine zr_iload C 4 rfl dX4_shareWith_37 ?_
    obtain ⟨hc2, h⟩ := zck_e h
    refine zr_iald C (zt41 hZ k0).1 (zt41 hZ k0).2 hc2 dX4_shareWith_39 ?_
    obtain ⟨r3, h4, h⟩ := zb_e h
    refine zr_callVi (n := 1) (As := [.int (A (F v0 1) v4.toNatClampNeg)]) C (c_X4_hasPrint l D cy hZ v1 (A (F v0 1) v4.toNatClampNeg) k1 I A h4) wd_287 wd_289 wp_4 wd_2 wd_290 (by decide +kernel) ⟨(Nat.le_trans (Nat.le_of_ble_eq_true rfl) hRf), (Nat.le_trans (Nat.le_of_ble_eq_true rfl) hRl)⟩ rfl rfl hRc k1 (by decide) rfl rfl rfl (Nat.le_of_ble_eq_true rfl) dX4_shareWith_40 ?_
    refine zr_if_eq (tgt := 49) C (by decide) dX4_shareWith_43 (fun hc6 => ?_) (fun hc6 => ?_)
    · have h := zif_t hc6 h
      refine zr_iinc (v := v4 + 1) (lv' := [(4, .int (v4 + 1)), (0, .ref v0), (1, .ref v1), (2, .int v2), (3, .int v3)]) C 4 rfl rfl (by decide) rfl dX4_shareWith_49 ?_
      refine zr_goto (tgt := 23) C (by decide) dX4_shareWith_52 ?_
      obtain rfl := zso h
      refine zr_lv (lv' := [(0, .ref v0), (1, .ref v1), (2, .int v2), (3, .int v3), (4, .int (v4 + 1))]) C [1, 2, 3, 4, 0] rfl ?_
      exact hg _ rfl
    · have h := zif_f hc6 h
      refine zr_iinc (v := v3 + 1) (lv' := [(3, .int (v3 + 1)), (0, .ref v0), (1, .ref v1), (2, .int v2), (4, .int v4)]) C 3 rfl rfl (by decide) rfl dX4_shareWith_46 ?_
      refine zr_iinc (v := v4 + 1) (lv' := [(4, .int (v4 + 1)), (3, .int (v3 + 1)), (0, .ref v0), (1, .ref v1), (2, .int v2)]) C 4 rfl rfl (by decide) rfl dX4_shareWith_49 ?_
      refine zr_goto (tgt := 23) C (by decide) dX4_shareWith_52 ?_
      obtain rfl := zso h
      refine zr_lv (lv' := [(0, .ref v0), (1, .ref v1), (2, .int v2), (3, .int (v3 + 1)), (4, .int (v4 + 1))]) C [2, 3, 4, 1, 0] rfl ?_
      exact hg _ rfl
set_option maxHeartbeats 4000000 in
set_option maxRecDepth 100000 in
theorem w_X4_shareWith_23 (l : Launch) (D : va_G) (cy : Nat → ClassId) {L : List Nat} {K N : Nat → Nat} {F G : Nat → Nat → Nat} (hZ : ZL L K N F G) {p : Program} {e : Env} {R : Room} {s : State} {m : MethodId} {args : Array Value} {below : List Frame} {meth : Method} {c : Code} {cells slots : Nat} {Q : State → Prop} (C : ZC p s m args meth c cX4_shareWith yX4_shareWith.cls 5 D cy L K N F G) (hRf : 1 ≤ R.frames) (hRl : 22 ≤ R.locals) (hRc : cells ≤ R.cells ∧ slots ≤ R.slots)  (v0 : Nat) (v1 : Nat) (v2 : Int32) (k0 : K v0 = 4) (k1 : K v1 = 4) (I : zH) (A : zH) (n : Nat) (x : Int32 × Int32) (o : Int32 × Int32) (h : zIt (fun x => g_X4_shareWith_23 F G v0 v1 v2 x.1 x.2 I A) n x = some o)
    (hx : ZW p l e R s m args below meth c 5 D cy L K N F G cells slots Q I A 55 [(0, .ref v0), (1, .ref v1), (2, .int v2), (3, .int o.1), (4, .int o.2)] []) : ZW p l e R s m args below meth c 5 D cy L K N F G cells slots Q I A 23 [(0, .ref v0), (1, .ref v1), (2, .int v2), (3, .int x.1), (4, .int x.2)] [] := by
  induction n generalizing x with
  | zero => cases h
  | succ n ih =>
    unfold zIt at h
    cases hb : g_X4_shareWith_23 F G v0 v1 v2 x.1 x.2 I A with
    | none => rw [hb] at h; cases h
    | some q =>
      rw [hb] at h
      refine wb_X4_shareWith_23 l D cy hZ C hRf hRl hRc v0 v1 v2 k0 k1 I A x.1 x.2 q hb (fun y hy => ?_) (fun y hy => ?_)
      · subst hy; exact ih y h
      · subst hy; cases h; exact hx
set_option maxHeartbeats 4000000 in
set_option maxRecDepth 100000 in
theorem c_X4_shareWith (l : Launch) (D : va_G) (cy : Nat → ClassId) {L : List Nat} {K N : Nat → Nat} {F G : Nat → Nat → Nat} (hZ : ZL L K N F G) (h0 : Nat) (r0 : Nat) (k_h0 : K h0 = 4) (k_r0 : K r0 = 4) (I A : zH) {r : Int32} (h : f_X4_shareWith F G h0 r0 I A = some r) : ZMi l yX4_shareWith cX4_shareWith 5 (some .int) { frames := 1, cells := 0, slots := 0, locals := 22 } D cy L K N F G [.ref h0, .ref r0] I A r I A := by
  refine ZMi.of (nL := 5) hZ rfl rfl (by decide) (Nat.le_of_ble_eq_true rfl) (fun p e s m args below meth c C hr => ?_)
  unfold f_X4_shareWith at h
  refine zr_lv (lv' := [(0, .ref h0), (1, .ref r0)]) C [0, 1] rfl ?_
  refine zr_aload_n C 0 rfl rfl dX4_shareWith_0 ?_
  refine zr_get (ci := 4) (k := 3) (v := .int (I h0 3)) C k_h0 (by decide) rfl zinX4 (by decide) wd_33 rfl dX4_shareWith_1 ?_
  refine zr_aload_n C 1 rfl rfl dX4_shareWith_4 ?_
  refine zr_get (ci := 4) (k := 3) (v := .int (I r0 3)) C k_r0 (by decide) rfl zinX4 (by decide) wd_33 rfl dX4_shareWith_5 ?_
  refine zr_min C wd_299 wd_300 wd_14 wd_301 (Nat.le_of_ble_eq_true rfl) (Nat.le_of_ble_eq_true rfl) ⟨Nat.le_of_ble_eq_true rfl, Nat.le_of_ble_eq_true rfl⟩ dX4_shareWith_8 ?_
  refine zr_istore_n (lv' := [(2, .int (if (I r0 3) < (I h0 3) then (I r0 3) else (I h0 3))), (0, .ref h0), (1, .ref r0)]) C rfl (by decide) rfl dX4_shareWith_11 ?_
  refine zr_iload_n C 0 rfl rfl dX4_shareWith_12 ?_
  refine zr_if_ne (tgt := 18) C (by decide) dX4_shareWith_13 (fun hc1 => ?_) (fun hc1 => ?_)
  · have h := zif_f hc1 h
    refine zr_iconst (v := 0) C (by decide) dX4_shareWith_18 ?_
    refine zr_istore_n (lv' := [(3, .int 0), (2, .int (if (I r0 3) < (I h0 3) then (I r0 3) else (I h0 3))), (0, .ref h0), (1, .ref r0)]) C rfl (by decide) rfl dX4_shareWith_19 ?_
    refine zr_iconst (v := 0) C (by decide) dX4_shareWith_20 ?_
    refine zr_istore (lv' := [(4, .int 0), (3, .int 0), (2, .int (if (I r0 3) < (I h0 3) then (I r0 3) else (I h0 3))), (0, .ref h0), (1, .ref r0)]) C (by decide) rfl dX4_shareWith_21 ?_
    obtain ⟨i2, i3, h5, h⟩ := zb2_e h
    refine zr_lv (lv' := [(0, .ref h0), (1, .ref r0), (2, .int (if (I r0 3) < (I h0 3) then (I r0 3) else (I h0 3))), (3, .int 0), (4, .int 0)]) C [3, 4, 2, 1, 0] rfl ?_
    refine w_X4_shareWith_23 l D cy hZ C (Nat.le_of_ble_eq_true rfl) (Nat.le_of_ble_eq_true rfl) ⟨Nat.le_of_ble_eq_true rfl, Nat.le_of_ble_eq_true rfl⟩ h0 r0 (if (I r0 3) < (I h0 3) then (I r0 3) else (I h0 3)) k_h0 k_r0 I A 2000 (0, 0) (i2, i3) h5 ?_
    refine zr_iload_n C 3 rfl rfl dX4_shareWith_55 ?_
    refine zr_bipush (v := 100) C (by decide) dX4_shareWith_56 ?_
    refine zr_imul C dX4_shareWith_58 ?_
    refine zr_iload_n C 2 rfl rfl dX4_shareWith_59 ?_
    obtain ⟨hc4, h⟩ := zck_e h
    refine zr_idiv C hc4 dX4_shareWith_60 ?_
    obtain rfl := zso h
    exact zr_iret C hr dX4_shareWith_61
  · have h := zif_t hc1 h
    refine zr_iconst (v := 0) C (by decide) dX4_shareWith_16 ?_
    obtain rfl := zso h
    exact zr_iret C hr dX4_shareWith_17

def g_X4_firstPlace_2 (F G : Nat → Nat → Nat) (v0 : Nat) (v1 : Int32) (v2 : Int32) (v3 : Int32) (I : zH) (A : zH) : Option ((Int32) ⊕ ((Int32) ⊕ (Int32))) :=
  if v2 ≤ v3 then (
    some (.inr (.inl v3))
  ) else (
    zck (¬ (v3 < 0 ∨ 12 ≤ v3.toNatClampNeg)) <|
    zck (¬ (v2 < 0 ∨ 12 ≤ v2.toNatClampNeg)) <|
    if (A (F v0 0) v3.toNatClampNeg) = (A (F v0 0) v2.toNatClampNeg) then (
      some (.inr (.inr (v3 - v1)))
    ) else (
      some (.inl (v3 + 1))
    )
  )
def f_X4_firstPlace (F G : Nat → Nat → Nat) (h0 : Nat) (p0 : Int32) (p1 : Int32) (I A : zH) : Option (Int32) :=
  zs (fun q => q) (zIt (fun x => g_X4_firstPlace_2 F G h0 p0 p1 x I A) 2000 p0) fun x3 =>
   some (p1 - p0)
set_option maxHeartbeats 4000000 in
set_option maxRecDepth 100000 in
theorem wb_X4_firstPlace_2 (l : Launch) (D : va_G) (cy : Nat → ClassId) {L : List Nat} {K N : Nat → Nat} {F G : Nat → Nat → Nat} (hZ : ZL L K N F G) {p : Program} {e : Env} {R : Room} {s : State} {m : MethodId} {args : Array Value} {below : List Frame} {meth : Method} {c : Code} {cells slots : Nat} {r : Int32} (C : ZC p s m args meth c cX4_firstPlace yX4_firstPlace.cls 4 D cy L K N F G) (hRf : 0 ≤ R.frames) (hRl : 0 ≤ R.locals) (hRc : cells ≤ R.cells ∧ slots ≤ R.slots) (hr : meth.sig.returnType = (some .int)) (v0 : Nat) (v1 : Int32) (v2 : Int32) (k0 : K v0 = 4) (I : zH) (A : zH) (v3 : Int32) (o : (Int32) ⊕ ((Int32) ⊕ (Int32))) (h : g_X4_firstPlace_2 F G v0 v1 v2 v3 I A = some o)
    (hg : ∀ y : Int32, o = .inl y → ZW p l e R s m args below meth c 4 D cy L K N F G cells slots (MQ below (va_Qi (fun x (_ : Unit) => x = r) (fun _ t => zPost D cy L K N F G I A t) (zA L s.heap.size)) args s cells slots (zA L s.heap.size)) I A 2 [(0, .ref v0), (1, .int v1), (2, .int v2), (3, .int y)] [])
    (hx : ∀ y : Int32, o = .inr (.inl y) → ZW p l e R s m args below meth c 4 D cy L K N F G cells slots (MQ below (va_Qi (fun x (_ : Unit) => x = r) (fun _ t => zPost D cy L K N F G I A t) (zA L s.heap.size)) args s cells slots (zA L s.heap.size)) I A 32 [(0, .ref v0), (1, .int v1), (2, .int v2), (3, .int y)] [])
    (hX : ∀ y : Int32, o = .inr (.inr y) → y = r) : ZW p l e R s m args below meth c 4 D cy L K N F G cells slots (MQ below (va_Qi (fun x (_ : Unit) => x = r) (fun _ t => zPost D cy L K N F G I A t) (zA L s.heap.size)) args s cells slots (zA L s.heap.size)) I A 2 [(0, .ref v0), (1, .int v1), (2, .int v2), (3, .int v3)] [] := by
  unfold g_X4_firstPlace_2 at h
  refine zr_iload_n C 3 rfl rfl dX4_firstPlace_2 ?_
  refine zr_iload_n C 2 rfl rfl dX4_firstPlace_3 ?_
  refine zr_icmp_ge (tgt := 32) C (by decide) dX4_firstPlace_4 (fun hc1 => ?_) (fun hc1 => ?_)
  · have h := zif_t hc1 h
    obtain rfl := zso h
    refine zr_lv (lv' := [(0, .ref v0), (1, .int v1), (2, .int v2), (3, .int v3)]) C [0, 1, 2, 3] rfl ?_
    exact hx _ rfl
  · have h := zif_f hc1 h
    refine zr_aload_n C 0 rfl rfl dX4_firstPlace_7 ?_
    refine zr_get (ci := 4) (k := 0) (v := .ref (F v0 0)) C k0 (by decide) rfl zinX4 (by decide) wd_29 rfl dX4_firstPlace_8 ?_
    refine zr_iload_n C 3 rfl rfl dX4_firstPlace_11 ?_
    obtain ⟨hc2, h⟩ := zck_e h
    refine zr_iald C (zt40 hZ k0).1 (zt40 hZ k0).2 hc2 dX4_firstPlace_12 ?_
    refine zr_aload_n C 0 rfl rfl dX4_firstPlace_13 ?_
    refine zr_get (ci := 4) (k := 0) (v := .ref (F v0 0)) C k0 (by decide) rfl zinX4 (by decide) wd_29 rfl dX4_firstPlace_14 ?_
    refine zr_iload_n C 2 rfl rfl dX4_firstPlace_17 ?_
    obtain ⟨hc3, h⟩ := zck_e h
    refine zr_iald C (zt40 hZ k0).1 (zt40 hZ k0).2 hc3 dX4_firstPlace_18 ?_
    refine zr_icmp_ne (tgt := 26) C (by decide) dX4_firstPlace_19 (fun hc4 => ?_) (fun hc4 => ?_)
    · have h := zif_f hc4 h
      refine zr_iinc (v := v3 + 1) (lv' := [(3, .int (v3 + 1)), (0, .ref v0), (1, .int v1), (2, .int v2)]) C 3 rfl rfl (by decide) rfl dX4_firstPlace_26 ?_
      refine zr_goto (tgt := 2) C (by decide) dX4_firstPlace_29 ?_
      obtain rfl := zso h
      refine zr_lv (lv' := [(0, .ref v0), (1, .int v1), (2, .int v2), (3, .int (v3 + 1))]) C [1, 2, 3, 0] rfl ?_
      exact hg _ rfl
    · have h := zif_t hc4 h
      refine zr_iload_n C 3 rfl rfl dX4_firstPlace_22 ?_
      refine zr_iload_n C 1 rfl rfl dX4_firstPlace_23 ?_
      refine zr_isub C dX4_firstPlace_24 ?_
      obtain rfl := zso h
      obtain rfl := hX _ rfl
      exact zr_iret C hr dX4_firstPlace_25
set_option maxHeartbeats 4000000 in
set_option maxRecDepth 100000 in
theorem w_X4_firstPlace_2 (l : Launch) (D : va_G) (cy : Nat → ClassId) {L : List Nat} {K N : Nat → Nat} {F G : Nat → Nat → Nat} (hZ : ZL L K N F G) {p : Program} {e : Env} {R : Room} {s : State} {m : MethodId} {args : Array Value} {below : List Frame} {meth : Method} {c : Code} {cells slots : Nat} {r : Int32} (C : ZC p s m args meth c cX4_firstPlace yX4_firstPlace.cls 4 D cy L K N F G) (hRf : 0 ≤ R.frames) (hRl : 0 ≤ R.locals) (hRc : cells ≤ R.cells ∧ slots ≤ R.slots) (hr : meth.sig.returnType = (some .int)) (v0 : Nat) (v1 : Int32) (v2 : Int32) (k0 : K v0 = 4) (I : zH) (A : zH) (n : Nat) (x : Int32) (o : (Int32) ⊕ (Int32)) (h : zIt (fun x => g_X4_firstPlace_2 F G v0 v1 v2 x I A) n x = some o)
    (hx : ∀ y : Int32, o = .inl y → ZW p l e R s m args below meth c 4 D cy L K N F G cells slots (MQ below (va_Qi (fun x (_ : Unit) => x = r) (fun _ t => zPost D cy L K N F G I A t) (zA L s.heap.size)) args s cells slots (zA L s.heap.size)) I A 32 [(0, .ref v0), (1, .int v1), (2, .int v2), (3, .int y)] []) (hX : ∀ y : Int32, o = .inr y → y = r) : ZW p l e R s m args below meth c 4 D cy L K N F G cells slots (MQ below (va_Qi (fun x (_ : Unit) => x = r) (fun _ t => zPost D cy L K N F G I A t) (zA L s.heap.size)) args s cells slots (zA L s.heap.size)) I A 2 [(0, .ref v0), (1, .int v1), (2, .int v2), (3, .int x)] [] := by
  induction n generalizing x with
  | zero => cases h
  | succ n ih =>
    unfold zIt at h
    cases hb : g_X4_firstPlace_2 F G v0 v1 v2 x I A with
    | none => rw [hb] at h; cases h
    | some q =>
      rw [hb] at h
      refine wb_X4_firstPlace_2 l D cy hZ C hRf hRl hRc hr v0 v1 v2 k0 I A x q hb (fun y hy => ?_) (fun y hy => ?_) (fun y hy => ?_)
      · subst hy; exact ih y h
      · subst hy; cases h; exact hx y rfl
      · subst hy; cases h; exact hX y rfl
set_option maxHeartbeats 4000000 in
set_option maxRecDepth 100000 in
theorem c_X4_firstPlace (l : Launch) (D : va_G) (cy : Nat → ClassId) {L : List Nat} {K N : Nat → Nat} {F G : Nat → Nat → Nat} (hZ : ZL L K N F G) (h0 : Nat) (p0 : Int32) (p1 : Int32) (k_h0 : K h0 = 4) (I A : zH) {r : Int32} (h : f_X4_firstPlace F G h0 p0 p1 I A = some r) : ZMi l yX4_firstPlace cX4_firstPlace 4 (some .int) { frames := 0, cells := 0, slots := 0, locals := 0 } D cy L K N F G [.ref h0, .int p0, .int p1] I A r I A := by
  refine ZMi.of (nL := 4) hZ rfl rfl (by decide) (Nat.le_of_ble_eq_true rfl) (fun p e s m args below meth c C hr => ?_)
  unfold f_X4_firstPlace at h
  refine zr_lv (lv' := [(0, .ref h0), (1, .int p0), (2, .int p1)]) C [0, 1, 2] rfl ?_
  refine zr_iload_n C 1 rfl rfl dX4_firstPlace_0 ?_
  refine zr_istore_n (lv' := [(3, .int p0), (0, .ref h0), (1, .int p0), (2, .int p1)]) C rfl (by decide) rfl dX4_firstPlace_1 ?_
  refine zr_lv (lv' := [(0, .ref h0), (1, .int p0), (2, .int p1), (3, .int p0)]) C [1, 2, 3, 0] rfl ?_
  obtain ⟨x3, h2, h⟩ | ⟨x3, h2, h⟩ := zs_e h
  · refine w_X4_firstPlace_2 l D cy hZ C (Nat.le_of_ble_eq_true rfl) (Nat.le_of_ble_eq_true rfl) ⟨Nat.le_of_ble_eq_true rfl, Nat.le_of_ble_eq_true rfl⟩ hr h0 p0 p1 k_h0 I A 2000 p0 (.inl x3) h2 (fun y hy => ?_) (fun q hq => by cases hq)
    cases hy
    obtain ⟨i1, rfl⟩ : ∃ z, z = x3 := ⟨_, rfl⟩
    refine zr_iload_n C 2 rfl rfl dX4_firstPlace_32 ?_
    refine zr_iload_n C 1 rfl rfl dX4_firstPlace_33 ?_
    refine zr_isub C dX4_firstPlace_34 ?_
    obtain rfl := zso h
    exact zr_iret C hr dX4_firstPlace_35
  · refine w_X4_firstPlace_2 l D cy hZ C (Nat.le_of_ble_eq_true rfl) (Nat.le_of_ble_eq_true rfl) ⟨Nat.le_of_ble_eq_true rfl, Nat.le_of_ble_eq_true rfl⟩ hr h0 p0 p1 k_h0 I A 2000 p0 (.inr x3) h2 (fun y hy => by cases hy) (fun q hq => ?_)
    cases hq
    exact h

def g_X4_printAt_4 (F G : Nat → Nat → Nat) (v0 : Nat) (v1 : Int32) (v2 : Int32) (v3 : Int32) (I : zH) (A : zH) : Option ((Int32 × Int32) ⊕ (Int32 × Int32)) :=
  if (v1 + 4) ≤ v3 then (
    some (.inr (v2, v3))
  ) else (
    zck (¬ (v3 < 0 ∨ 12 ≤ v3.toNatClampNeg)) <|
    if 10 ≤ (A (F v0 0) v3.toNatClampNeg) then (
      zck (¬ (v3 < 0 ∨ 12 ≤ v3.toNatClampNeg)) <|
      some (.inl ((v2 * 30) + (A (F v0 0) v3.toNatClampNeg), v3 + 1))
    ) else (
      zb (f_X4_firstPlace F G v0 v1 v3 I A) fun r5 =>
      some (.inl ((v2 * 30) + r5, v3 + 1))
    )
  )
def f_X4_printAt (F G : Nat → Nat → Nat) (h0 : Nat) (p0 : Int32) (I A : zH) : Option (Int32) :=
  zb2 (zIt (fun x => g_X4_printAt_4 F G h0 p0 x.1 x.2 I A) 2000 (0, p0)) fun i1 i2 =>
  some i1
set_option maxHeartbeats 4000000 in
set_option maxRecDepth 100000 in
theorem wb_X4_printAt_4 (l : Launch) (D : va_G) (cy : Nat → ClassId) {L : List Nat} {K N : Nat → Nat} {F G : Nat → Nat → Nat} (hZ : ZL L K N F G) {p : Program} {e : Env} {R : Room} {s : State} {m : MethodId} {args : Array Value} {below : List Frame} {meth : Method} {c : Code} {cells slots : Nat} {Q : State → Prop} (C : ZC p s m args meth c cX4_printAt yX4_printAt.cls 5 D cy L K N F G) (hRf : 1 ≤ R.frames) (hRl : 23 ≤ R.locals) (hRc : cells ≤ R.cells ∧ slots ≤ R.slots)  (v0 : Nat) (v1 : Int32) (k0 : K v0 = 4) (I : zH) (A : zH) (v2 : Int32) (v3 : Int32) (o : (Int32 × Int32) ⊕ (Int32 × Int32)) (h : g_X4_printAt_4 F G v0 v1 v2 v3 I A = some o)
    (hg : ∀ y : Int32 × Int32, o = .inl y → ZW p l e R s m args below meth c 5 D cy L K N F G cells slots Q I A 4 [(0, .ref v0), (1, .int v1), (2, .int y.1), (3, .int y.2)] [])
    (hx : ∀ y : Int32 × Int32, o = .inr y → ZW p l e R s m args below meth c 5 D cy L K N F G cells slots Q I A 53 [(0, .ref v0), (1, .int v1), (2, .int y.1), (3, .int y.2)] []) : ZW p l e R s m args below meth c 5 D cy L K N F G cells slots Q I A 4 [(0, .ref v0), (1, .int v1), (2, .int v2), (3, .int v3)] [] := by
  unfold g_X4_printAt_4 at h
  refine zr_iload_n C 3 rfl rfl dX4_printAt_4 ?_
  refine zr_iload_n C 1 rfl rfl dX4_printAt_5 ?_
  refine zr_iconst (v := 4) C (by decide) dX4_printAt_6 ?_
  refine zr_iadd C dX4_printAt_7 ?_
  refine zr_icmp_ge (tgt := 53) C (by decide) dX4_printAt_8 (fun hc1 => ?_) (fun hc1 => ?_)
  · have h := zif_t hc1 h
    obtain rfl := zso h
    refine zr_lv (lv' := [(0, .ref v0), (1, .int v1), (2, .int v2), (3, .int v3)]) C [0, 1, 2, 3] rfl ?_
    exact hx _ rfl
  · have h := zif_f hc1 h
    refine zr_aload_n C 0 rfl rfl dX4_printAt_11 ?_
    refine zr_get (ci := 4) (k := 0) (v := .ref (F v0 0)) C k0 (by decide) rfl zinX4 (by decide) wd_29 rfl dX4_printAt_12 ?_
    refine zr_iload_n C 3 rfl rfl dX4_printAt_15 ?_
    obtain ⟨hc2, h⟩ := zck_e h
    refine zr_iald C (zt40 hZ k0).1 (zt40 hZ k0).2 hc2 dX4_printAt_16 ?_
    refine zr_bipush (v := 10) C (by decide) dX4_printAt_17 ?_
    refine zr_icmp_ge (tgt := 31) C (by decide) dX4_printAt_19 (fun hc3 => ?_) (fun hc3 => ?_)
    · have h := zif_t hc3 h
      refine zr_aload_n C 0 rfl rfl dX4_printAt_31 ?_
      refine zr_get (ci := 4) (k := 0) (v := .ref (F v0 0)) C k0 (by decide) rfl zinX4 (by decide) wd_29 rfl dX4_printAt_32 ?_
      refine zr_iload_n C 3 rfl rfl dX4_printAt_35 ?_
      obtain ⟨hc4, h⟩ := zck_e h
      refine zr_iald C (zt40 hZ k0).1 (zt40 hZ k0).2 hc4 dX4_printAt_36 ?_
      refine zr_istore (lv' := [(4, .int (A (F v0 0) v3.toNatClampNeg)), (0, .ref v0), (1, .int v1), (2, .int v2), (3, .int v3)]) C (by decide) rfl dX4_printAt_37 ?_
      refine zr_iload_n C 3 rfl rfl dX4_printAt_39 ?_
      refine zr_bipush (v := 30) C (by decide) dX4_printAt_40 ?_
      refine zr_imul C dX4_printAt_42 ?_
      refine zr_iload C 0 rfl dX4_printAt_43 ?_
      refine zr_iadd C dX4_printAt_45 ?_
      refine zr_istore_n (lv' := [(2, .int ((v2 * 30) + (A (F v0 0) v3.toNatClampNeg))), (4, .int (A (F v0 0) v3.toNatClampNeg)), (0, .ref v0), (1, .int v1), (3, .int v3)]) C rfl (by decide) rfl dX4_printAt_46 ?_
      refine zr_iinc (v := v3 + 1) (lv' := [(3, .int (v3 + 1)), (2, .int ((v2 * 30) + (A (F v0 0) v3.toNatClampNeg))), (4, .int (A (F v0 0) v3.toNatClampNeg)), (0, .ref v0), (1, .int v1)]) C 4 rfl rfl (by decide) rfl dX4_printAt_47 ?_
      refine zr_goto (tgt := 4) C (by decide) dX4_printAt_50 ?_
      obtain rfl := zso h
      refine zr_lv (lv' := [(0, .ref v0), (1, .int v1), (2, .int ((v2 * 30) + (A (F v0 0) v3.toNatClampNeg))), (3, .int (v3 + 1))]) C [3, 4, 1, 0] rfl ?_
      exact hg _ rfl
    · have h := zif_f hc3 h
      refine zr_aload_n C 0 rfl rfl dX4_printAt_22 ?_
      refine zr_iload_n C 1 rfl rfl dX4_printAt_23 ?_
      refine zr_iload_n C 3 rfl rfl dX4_printAt_24 ?_
      obtain ⟨r5, h6, h⟩ := zb_e h
      refine zr_callVi (n := 2) (As := [.int v1, .int v3]) C (c_X4_firstPlace l D cy hZ v0 v1 v3 k0 I A h6) wd_283 wd_285 wp_3 wd_2 wd_286 (by decide +kernel) ⟨(Nat.le_trans (Nat.le_of_ble_eq_true rfl) hRf), (Nat.le_trans (Nat.le_of_ble_eq_true rfl) hRl)⟩ rfl rfl hRc k0 (by decide) rfl rfl rfl (Nat.le_of_ble_eq_true rfl) dX4_printAt_25 ?_
      refine zr_goto (tgt := 37) C (by decide) dX4_printAt_28 ?_
      refine zr_istore (lv' := [(4, .int r5), (0, .ref v0), (1, .int v1), (2, .int v2), (3, .int v3)]) C (by decide) rfl dX4_printAt_37 ?_
      refine zr_iload_n C 3 rfl rfl dX4_printAt_39 ?_
      refine zr_bipush (v := 30) C (by decide) dX4_printAt_40 ?_
      refine zr_imul C dX4_printAt_42 ?_
      refine zr_iload C 0 rfl dX4_printAt_43 ?_
      refine zr_iadd C dX4_printAt_45 ?_
      refine zr_istore_n (lv' := [(2, .int ((v2 * 30) + r5)), (4, .int r5), (0, .ref v0), (1, .int v1), (3, .int v3)]) C rfl (by decide) rfl dX4_printAt_46 ?_
      refine zr_iinc (v := v3 + 1) (lv' := [(3, .int (v3 + 1)), (2, .int ((v2 * 30) + r5)), (4, .int r5), (0, .ref v0), (1, .int v1)]) C 4 rfl rfl (by decide) rfl dX4_printAt_47 ?_
      refine zr_goto (tgt := 4) C (by decide) dX4_printAt_50 ?_
      obtain rfl := zso h
      refine zr_lv (lv' := [(0, .ref v0), (1, .int v1), (2, .int ((v2 * 30) + r5)), (3, .int (v3 + 1))]) C [3, 4, 1, 0] rfl ?_
      exact hg _ rfl
set_option maxHeartbeats 4000000 in
set_option maxRecDepth 100000 in
theorem w_X4_printAt_4 (l : Launch) (D : va_G) (cy : Nat → ClassId) {L : List Nat} {K N : Nat → Nat} {F G : Nat → Nat → Nat} (hZ : ZL L K N F G) {p : Program} {e : Env} {R : Room} {s : State} {m : MethodId} {args : Array Value} {below : List Frame} {meth : Method} {c : Code} {cells slots : Nat} {Q : State → Prop} (C : ZC p s m args meth c cX4_printAt yX4_printAt.cls 5 D cy L K N F G) (hRf : 1 ≤ R.frames) (hRl : 23 ≤ R.locals) (hRc : cells ≤ R.cells ∧ slots ≤ R.slots)  (v0 : Nat) (v1 : Int32) (k0 : K v0 = 4) (I : zH) (A : zH) (n : Nat) (x : Int32 × Int32) (o : Int32 × Int32) (h : zIt (fun x => g_X4_printAt_4 F G v0 v1 x.1 x.2 I A) n x = some o)
    (hx : ZW p l e R s m args below meth c 5 D cy L K N F G cells slots Q I A 53 [(0, .ref v0), (1, .int v1), (2, .int o.1), (3, .int o.2)] []) : ZW p l e R s m args below meth c 5 D cy L K N F G cells slots Q I A 4 [(0, .ref v0), (1, .int v1), (2, .int x.1), (3, .int x.2)] [] := by
  induction n generalizing x with
  | zero => cases h
  | succ n ih =>
    unfold zIt at h
    cases hb : g_X4_printAt_4 F G v0 v1 x.1 x.2 I A with
    | none => rw [hb] at h; cases h
    | some q =>
      rw [hb] at h
      refine wb_X4_printAt_4 l D cy hZ C hRf hRl hRc v0 v1 k0 I A x.1 x.2 q hb (fun y hy => ?_) (fun y hy => ?_)
      · subst hy; exact ih y h
      · subst hy; cases h; exact hx
set_option maxHeartbeats 4000000 in
set_option maxRecDepth 100000 in
theorem c_X4_printAt (l : Launch) (D : va_G) (cy : Nat → ClassId) {L : List Nat} {K N : Nat → Nat} {F G : Nat → Nat → Nat} (hZ : ZL L K N F G) (h0 : Nat) (p0 : Int32) (k_h0 : K h0 = 4) (I A : zH) {r : Int32} (h : f_X4_printAt F G h0 p0 I A = some r) : ZMi l yX4_printAt cX4_printAt 5 (some .int) { frames := 1, cells := 0, slots := 0, locals := 23 } D cy L K N F G [.ref h0, .int p0] I A r I A := by
  refine ZMi.of (nL := 5) hZ rfl rfl (by decide) (Nat.le_of_ble_eq_true rfl) (fun p e s m args below meth c C hr => ?_)
  unfold f_X4_printAt at h
  refine zr_lv (lv' := [(0, .ref h0), (1, .int p0)]) C [0, 1] rfl ?_
  refine zr_iconst (v := 0) C (by decide) dX4_printAt_0 ?_
  refine zr_istore_n (lv' := [(2, .int 0), (0, .ref h0), (1, .int p0)]) C rfl (by decide) rfl dX4_printAt_1 ?_
  refine zr_iload_n C 2 rfl rfl dX4_printAt_2 ?_
  refine zr_istore_n (lv' := [(3, .int p0), (2, .int 0), (0, .ref h0), (1, .int p0)]) C rfl (by decide) rfl dX4_printAt_3 ?_
  obtain ⟨i1, i2, h3, h⟩ := zb2_e h
  refine zr_lv (lv' := [(0, .ref h0), (1, .int p0), (2, .int 0), (3, .int p0)]) C [2, 3, 1, 0] rfl ?_
  refine w_X4_printAt_4 l D cy hZ C (Nat.le_of_ble_eq_true rfl) (Nat.le_of_ble_eq_true rfl) ⟨Nat.le_of_ble_eq_true rfl, Nat.le_of_ble_eq_true rfl⟩ h0 p0 k_h0 I A 2000 (0, p0) (i1, i2) h3 ?_
  refine zr_iload_n C 2 rfl rfl dX4_printAt_53 ?_
  obtain rfl := zso h
  exact zr_iret C hr dX4_printAt_54

def g_X4_takePrints_7 (F G : Nat → Nat → Nat) (v0 : Nat) (v1 : Int32) (I : zH) (A : zH) : Option ((Int32 × zH × zH) ⊕ (Int32 × zH × zH)) :=
  if (I v0 2) < (v1 + 4) then (
    some (.inr (v1, I, A))
  ) else (
    zb (f_X4_printAt F G v0 v1 I A) fun r2 =>
    zb (f_X4_hasPrint F G v0 r2 I A) fun r5 =>
    if r5 = 0 then (
      zck (¬ (I v0 3 < 0 ∨ 9 ≤ (I v0 3).toNatClampNeg)) <|
      zlet (up2 A (F v0 1) (I v0 3).toNatClampNeg r2) fun A10 =>
      zlet (up2 I v0 3 ((I v0 3) + 1)) fun I11 =>
      some (.inl (v1 + 1, I11, A10))
    ) else (
      some (.inl (v1 + 1, I, A))
    )
  )
def f_X4_takePrints (F G : Nat → Nat → Nat) (h0 : Nat) (I A : zH) : Option (zH × zH) :=
  zlet (up2 I h0 3 0) fun I1 =>
  zb3 (zIt (fun x => g_X4_takePrints_7 F G h0 x.1 x.2.1 x.2.2 ) 2000 (0, I1, A)) fun i2 I3 A4 =>
  some (I3, A4)
set_option maxHeartbeats 4000000 in
set_option maxRecDepth 100000 in
theorem wb_X4_takePrints_7 (l : Launch) (D : va_G) (cy : Nat → ClassId) {L : List Nat} {K N : Nat → Nat} {F G : Nat → Nat → Nat} (hZ : ZL L K N F G) {p : Program} {e : Env} {R : Room} {s : State} {m : MethodId} {args : Array Value} {below : List Frame} {meth : Method} {c : Code} {cells slots : Nat} {Q : State → Prop} (C : ZC p s m args meth c cX4_takePrints yX4_takePrints.cls 3 D cy L K N F G) (hRf : 2 ≤ R.frames) (hRl : 47 ≤ R.locals) (hRc : cells ≤ R.cells ∧ slots ≤ R.slots)  (v0 : Nat) (k0 : K v0 = 4) (v1 : Int32) (I : zH) (A : zH) (o : (Int32 × zH × zH) ⊕ (Int32 × zH × zH)) (h : g_X4_takePrints_7 F G v0 v1 I A  = some o)
    (hg : ∀ y : Int32 × zH × zH, o = .inl y → ZW p l e R s m args below meth c 3 D cy L K N F G cells slots Q y.2.1 y.2.2 7 [(0, .ref v0), (1, .int y.1)] [])
    (hx : ∀ y : Int32 × zH × zH, o = .inr y → ZW p l e R s m args below meth c 3 D cy L K N F G cells slots Q y.2.1 y.2.2 57 [(0, .ref v0), (1, .int y.1)] []) : ZW p l e R s m args below meth c 3 D cy L K N F G cells slots Q I A 7 [(0, .ref v0), (1, .int v1)] [] := by
  unfold g_X4_takePrints_7 at h
  refine zr_iload_n C 1 rfl rfl dX4_takePrints_7 ?_
  refine zr_iconst (v := 4) C (by decide) dX4_takePrints_8 ?_
  refine zr_iadd C dX4_takePrints_9 ?_
  refine zr_aload_n C 0 rfl rfl dX4_takePrints_10 ?_
  refine zr_get (ci := 4) (k := 2) (v := .int (I v0 2)) C k0 (by decide) rfl zinX4 (by decide) wd_31 rfl dX4_takePrints_11 ?_
  refine zr_icmp_gt (tgt := 57) C (by decide) dX4_takePrints_14 (fun hc1 => ?_) (fun hc1 => ?_)
  · have h := zif_t hc1 h
    obtain rfl := zso h
    refine zr_lv (lv' := [(0, .ref v0), (1, .int v1)]) C [0, 1] rfl ?_
    exact hx _ rfl
  · have h := zif_f hc1 h
    refine zr_aload_n C 0 rfl rfl dX4_takePrints_17 ?_
    refine zr_iload_n C 1 rfl rfl dX4_takePrints_18 ?_
    obtain ⟨r2, h3, h⟩ := zb_e h
    refine zr_callVi (n := 1) (As := [.int v1]) C (c_X4_printAt l D cy hZ v0 v1 k0 I A h3) wd_279 wd_281 wp_2 wd_2 wd_282 (by decide +kernel) ⟨(Nat.le_trans (Nat.le_of_ble_eq_true rfl) hRf), (Nat.le_trans (Nat.le_of_ble_eq_true rfl) hRl)⟩ rfl rfl hRc k0 (by decide) rfl rfl rfl (Nat.le_of_ble_eq_true rfl) dX4_takePrints_19 ?_
    refine zr_istore_n (lv' := [(2, .int r2), (0, .ref v0), (1, .int v1)]) C rfl (by decide) rfl dX4_takePrints_22 ?_
    refine zr_aload_n C 1 rfl rfl dX4_takePrints_23 ?_
    refine zr_iload_n C 0 rfl rfl dX4_takePrints_24 ?_
    obtain ⟨r5, h6, h⟩ := zb_e h
    refine zr_callVi (n := 1) (As := [.int r2]) C (c_X4_hasPrint l D cy hZ v0 r2 k0 I A h6) wd_287 wd_289 wp_4 wd_2 wd_290 (by decide +kernel) ⟨(Nat.le_trans (Nat.le_of_ble_eq_true rfl) hRf), (Nat.le_trans (Nat.le_of_ble_eq_true rfl) hRl)⟩ rfl rfl hRc k0 (by decide) rfl rfl rfl (Nat.le_of_ble_eq_true rfl) dX4_takePrints_25 ?_
    refine zr_if_ne (tgt := 51) C (by decide) dX4_takePrints_28 (fun hc8 => ?_) (fun hc8 => ?_)
    · have h := zif_f hc8 h
      refine zr_iinc (v := v1 + 1) (lv' := [(1, .int (v1 + 1)), (2, .int r2), (0, .ref v0)]) C 2 rfl rfl (by decide) rfl dX4_takePrints_51 ?_
      refine zr_goto (tgt := 7) C (by decide) dX4_takePrints_54 ?_
      obtain rfl := zso h
      refine zr_lv (lv' := [(0, .ref v0), (1, .int (v1 + 1))]) C [2, 0] rfl ?_
      exact hg _ rfl
    · have h := zif_t hc8 h
      refine zr_aload_n C 1 rfl rfl dX4_takePrints_31 ?_
      refine zr_get (ci := 4) (k := 1) (v := .ref (F v0 1)) C k0 (by decide) rfl zinX4 (by decide) wd_30 rfl dX4_takePrints_32 ?_
      refine zr_aload_n C 1 rfl rfl dX4_takePrints_35 ?_
      refine zr_get (ci := 4) (k := 3) (v := .int (I v0 3)) C k0 (by decide) rfl zinX4 (by decide) wd_33 rfl dX4_takePrints_36 ?_
      refine zr_iload_n C 0 rfl rfl dX4_takePrints_39 ?_
      obtain ⟨hc9, h⟩ := zck_e h
      refine zr_iast C (zt41 hZ k0).1 (zt41 hZ k0).2 hc9 dX4_takePrints_40 ?_
      obtain ⟨A10, eA10, h⟩ := zlet_e h
      rw [← eA10]
      refine zr_aload_n C 1 rfl rfl dX4_takePrints_41 ?_
      refine zr_dup C rfl dX4_takePrints_42 ?_
      refine zr_get (ci := 4) (k := 3) (v := .int (I v0 3)) C k0 (by decide) rfl zinX4 (by decide) wd_33 rfl dX4_takePrints_43 ?_
      refine zr_iconst (v := 1) C (by decide) dX4_takePrints_46 ?_
      refine zr_iadd C dX4_takePrints_47 ?_
      refine zr_put (ci := 4) (k := 3) (ty := .int) C tyX4 k0 (by decide) rfl zinX4 tyX4_ok nmX4 (by decide) wd_33 rfl (by decide +kernel) rfl rfl (Nat.le_of_ble_eq_true rfl) (zset_4_3 F _ _ _) dX4_takePrints_48 ?_
      obtain ⟨I11, eI11, h⟩ := zlet_e h
      rw [← eI11]
      refine zr_iinc (v := v1 + 1) (lv' := [(1, .int (v1 + 1)), (2, .int r2), (0, .ref v0)]) C 2 rfl rfl (by decide) rfl dX4_takePrints_51 ?_
      refine zr_goto (tgt := 7) C (by decide) dX4_takePrints_54 ?_
      obtain rfl := zso h
      refine zr_lv (lv' := [(0, .ref v0), (1, .int (v1 + 1))]) C [2, 0] rfl ?_
      exact hg _ rfl
set_option maxHeartbeats 4000000 in
set_option maxRecDepth 100000 in
theorem w_X4_takePrints_7 (l : Launch) (D : va_G) (cy : Nat → ClassId) {L : List Nat} {K N : Nat → Nat} {F G : Nat → Nat → Nat} (hZ : ZL L K N F G) {p : Program} {e : Env} {R : Room} {s : State} {m : MethodId} {args : Array Value} {below : List Frame} {meth : Method} {c : Code} {cells slots : Nat} {Q : State → Prop} (C : ZC p s m args meth c cX4_takePrints yX4_takePrints.cls 3 D cy L K N F G) (hRf : 2 ≤ R.frames) (hRl : 47 ≤ R.locals) (hRc : cells ≤ R.cells ∧ slots ≤ R.slots)  (v0 : Nat) (k0 : K v0 = 4) (n : Nat) (x : Int32 × zH × zH) (o : Int32 × zH × zH) (h : zIt (fun x => g_X4_takePrints_7 F G v0 x.1 x.2.1 x.2.2 ) n x = some o)
    (hx : ZW p l e R s m args below meth c 3 D cy L K N F G cells slots Q o.2.1 o.2.2 57 [(0, .ref v0), (1, .int o.1)] []) : ZW p l e R s m args below meth c 3 D cy L K N F G cells slots Q x.2.1 x.2.2 7 [(0, .ref v0), (1, .int x.1)] [] := by
  induction n generalizing x with
  | zero => cases h
  | succ n ih =>
    unfold zIt at h
    cases hb : g_X4_takePrints_7 F G v0 x.1 x.2.1 x.2.2  with
    | none => rw [hb] at h; cases h
    | some q =>
      rw [hb] at h
      refine wb_X4_takePrints_7 l D cy hZ C hRf hRl hRc v0 k0 x.1 x.2.1 x.2.2 q hb (fun y hy => ?_) (fun y hy => ?_)
      · subst hy; exact ih y h
      · subst hy; cases h; exact hx
set_option maxHeartbeats 4000000 in
set_option maxRecDepth 100000 in
theorem c_X4_takePrints (l : Launch) (D : va_G) (cy : Nat → ClassId) {L : List Nat} {K N : Nat → Nat} {F G : Nat → Nat → Nat} (hZ : ZL L K N F G) (h0 : Nat) (k_h0 : K h0 = 4) (I A : zH) {J' : zH} {B' : zH} (h : f_X4_takePrints F G h0 I A = some (J', B')) : ZMv l yX4_takePrints cX4_takePrints 3 none { frames := 2, cells := 0, slots := 0, locals := 47 } D cy L K N F G [.ref h0] I A J' B' := by
  refine ZMv.of (nL := 3) hZ rfl rfl (by decide) (Nat.le_of_ble_eq_true rfl) (fun p e s m args below meth c C hr => ?_)
  unfold f_X4_takePrints at h
  refine zr_lv (lv' := [(0, .ref h0)]) C [0] rfl ?_
  refine zr_aload_n C 0 rfl rfl dX4_takePrints_0 ?_
  refine zr_iconst (v := 0) C (by decide) dX4_takePrints_1 ?_
  refine zr_put (ci := 4) (k := 3) (ty := .int) C tyX4 k_h0 (by decide) rfl zinX4 tyX4_ok nmX4 (by decide) wd_33 rfl (by decide +kernel) rfl rfl (Nat.le_of_ble_eq_true rfl) (zset_4_3 F _ _ _) dX4_takePrints_2 ?_
  obtain ⟨I1, eI1, h⟩ := zlet_e h
  rw [← eI1]
  refine zr_iconst (v := 0) C (by decide) dX4_takePrints_5 ?_
  refine zr_istore_n (lv' := [(1, .int 0), (0, .ref h0)]) C rfl (by decide) rfl dX4_takePrints_6 ?_
  obtain ⟨i2, I3, A4, h5, h⟩ := zb3_e h
  refine zr_lv (lv' := [(0, .ref h0), (1, .int 0)]) C [1, 0] rfl ?_
  refine w_X4_takePrints_7 l D cy hZ C (Nat.le_of_ble_eq_true rfl) (Nat.le_of_ble_eq_true rfl) ⟨Nat.le_of_ble_eq_true rfl, Nat.le_of_ble_eq_true rfl⟩ h0 k_h0  2000 (0, I1, A) (i2, I3, A4) h5 ?_
  cases zso h
  exact zr_vret C hr dX4_takePrints_57

def f_X4_append (F G : Nat → Nat → Nat) (h0 : Nat) (p0 : Int32) (I A : zH) : Option (zH × zH) :=
  if 12 ≤ (I h0 2) then (
    some (I, A)
  ) else (
    zck (¬ (I h0 2 < 0 ∨ 12 ≤ (I h0 2).toNatClampNeg)) <|
    zlet (up2 A (F h0 0) (I h0 2).toNatClampNeg p0) fun A3 =>
    zlet (up2 I h0 2 ((I h0 2) + 1)) fun I4 =>
    zb2 (f_X4_takePrints F G h0 I4 A3) fun I5 A6 =>
    some (I5, A6)
  )
set_option maxHeartbeats 4000000 in
set_option maxRecDepth 100000 in
theorem c_X4_append (l : Launch) (D : va_G) (cy : Nat → ClassId) {L : List Nat} {K N : Nat → Nat} {F G : Nat → Nat → Nat} (hZ : ZL L K N F G) (h0 : Nat) (p0 : Int32) (k_h0 : K h0 = 4) (I A : zH) {J' : zH} {B' : zH} (h : f_X4_append F G h0 p0 I A = some (J', B')) : ZMv l yX4_append cX4_append 2 none { frames := 3, cells := 0, slots := 0, locals := 69 } D cy L K N F G [.ref h0, .int p0] I A J' B' := by
  refine ZMv.of (nL := 2) hZ rfl rfl (by decide) (Nat.le_of_ble_eq_true rfl) (fun p e s m args below meth c C hr => ?_)
  unfold f_X4_append at h
  refine zr_lv (lv' := [(0, .ref h0), (1, .int p0)]) C [0, 1] rfl ?_
  refine zr_aload_n C 0 rfl rfl dX4_append_0 ?_
  refine zr_get (ci := 4) (k := 2) (v := .int (I h0 2)) C k_h0 (by decide) rfl zinX4 (by decide) wd_31 rfl dX4_append_1 ?_
  refine zr_bipush (v := 12) C (by decide) dX4_append_4 ?_
  refine zr_icmp_ge (tgt := 33) C (by decide) dX4_append_6 (fun hc1 => ?_) (fun hc1 => ?_)
  · have h := zif_t hc1 h
    cases zso h
    exact zr_vret C hr dX4_append_33
  · have h := zif_f hc1 h
    refine zr_aload_n C 0 rfl rfl dX4_append_9 ?_
    refine zr_get (ci := 4) (k := 0) (v := .ref (F h0 0)) C k_h0 (by decide) rfl zinX4 (by decide) wd_29 rfl dX4_append_10 ?_
    refine zr_aload_n C 0 rfl rfl dX4_append_13 ?_
    refine zr_get (ci := 4) (k := 2) (v := .int (I h0 2)) C k_h0 (by decide) rfl zinX4 (by decide) wd_31 rfl dX4_append_14 ?_
    refine zr_iload_n C 1 rfl rfl dX4_append_17 ?_
    obtain ⟨hc2, h⟩ := zck_e h
    refine zr_iast C (zt40 hZ k_h0).1 (zt40 hZ k_h0).2 hc2 dX4_append_18 ?_
    obtain ⟨A3, eA3, h⟩ := zlet_e h
    rw [← eA3]
    refine zr_aload_n C 0 rfl rfl dX4_append_19 ?_
    refine zr_dup C rfl dX4_append_20 ?_
    refine zr_get (ci := 4) (k := 2) (v := .int (I h0 2)) C k_h0 (by decide) rfl zinX4 (by decide) wd_31 rfl dX4_append_21 ?_
    refine zr_iconst (v := 1) C (by decide) dX4_append_24 ?_
    refine zr_iadd C dX4_append_25 ?_
    refine zr_put (ci := 4) (k := 2) (ty := .int) C tyX4 k_h0 (by decide) rfl zinX4 tyX4_ok nmX4 (by decide) wd_31 rfl (by decide +kernel) rfl rfl (Nat.le_of_ble_eq_true rfl) (zset_4_2 F _ _ _) dX4_append_26 ?_
    obtain ⟨I4, eI4, h⟩ := zlet_e h
    rw [← eI4]
    refine zr_aload_n C 0 rfl rfl dX4_append_29 ?_
    obtain ⟨I5, A6, h7, h⟩ := zb2_e h
    refine zr_callVv (n := 0) (As := []) C (c_X4_takePrints l D cy hZ h0 k_h0 I4 A3 h7) wd_275 wd_277 wp_1 wd_2 wd_278 (by decide +kernel) ⟨(Nat.le_of_ble_eq_true rfl), (Nat.le_of_ble_eq_true rfl)⟩ rfl rfl ⟨Nat.le_of_ble_eq_true rfl, Nat.le_of_ble_eq_true rfl⟩ k_h0 (by decide) rfl rfl rfl (Nat.le_of_ble_eq_true rfl) dX4_append_30 ?_
    cases zso h
    exact zr_vret C hr dX4_append_33

def g_X4_dropFirst_11 (F G : Nat → Nat → Nat) (v0 : Nat) (v2 : Int32) (v3 : Int32) (A : zH) (I : zH) : Option ((Int32 × zH) ⊕ (Int32 × zH)) :=
  if (I v0 2) ≤ v3 then (
    some (.inr (v3, A))
  ) else (
    zck (¬ (v3 < 0 ∨ 12 ≤ v3.toNatClampNeg)) <|
    zck (¬ (v3 - v2 < 0 ∨ 12 ≤ (v3 - v2).toNatClampNeg)) <|
    zlet (up2 A (F v0 0) (v3 - v2).toNatClampNeg (A (F v0 0) v3.toNatClampNeg)) fun A4 =>
    some (.inl (v3 + 1, A4))
  )
def f_X4_dropFirst (F G : Nat → Nat → Nat) (h0 : Nat) (p0 : Int32) (I A : zH) : Option (zH × zH) :=
  zb2 (zIt (fun x => g_X4_dropFirst_11 F G h0 (if (I h0 2) < p0 then (I h0 2) else p0) x.1 x.2 I ) 2000 (if (I h0 2) < p0 then (I h0 2) else p0, A)) fun i1 A2 =>
  zlet (up2 I h0 2 ((I h0 2) - (if (I h0 2) < p0 then (I h0 2) else p0))) fun I3 =>
  zb2 (f_X4_takePrints F G h0 I3 A2) fun I4 A5 =>
  some (I4, A5)
set_option maxHeartbeats 4000000 in
set_option maxRecDepth 100000 in
theorem wb_X4_dropFirst_11 (l : Launch) (D : va_G) (cy : Nat → ClassId) {L : List Nat} {K N : Nat → Nat} {F G : Nat → Nat → Nat} (hZ : ZL L K N F G) {p : Program} {e : Env} {R : Room} {s : State} {m : MethodId} {args : Array Value} {below : List Frame} {meth : Method} {c : Code} {cells slots : Nat} {Q : State → Prop} (C : ZC p s m args meth c cX4_dropFirst yX4_dropFirst.cls 4 D cy L K N F G) (hRf : 0 ≤ R.frames) (hRl : 0 ≤ R.locals) (hRc : cells ≤ R.cells ∧ slots ≤ R.slots)  (v0 : Nat) (v2 : Int32) (k0 : K v0 = 4) (I : zH) (v3 : Int32) (A : zH) (o : (Int32 × zH) ⊕ (Int32 × zH)) (h : g_X4_dropFirst_11 F G v0 v2 v3 A I = some o)
    (hg : ∀ y : Int32 × zH, o = .inl y → ZW p l e R s m args below meth c 4 D cy L K N F G cells slots Q I y.2 11 [(0, .ref v0), (2, .int v2), (3, .int y.1)] [])
    (hx : ∀ y : Int32 × zH, o = .inr y → ZW p l e R s m args below meth c 4 D cy L K N F G cells slots Q I y.2 39 [(0, .ref v0), (2, .int v2), (3, .int y.1)] []) : ZW p l e R s m args below meth c 4 D cy L K N F G cells slots Q I A 11 [(0, .ref v0), (2, .int v2), (3, .int v3)] [] := by
  unfold g_X4_dropFirst_11 at h
  refine zr_iload_n C 2 rfl rfl dX4_dropFirst_11 ?_
  refine zr_aload_n C 0 rfl rfl dX4_dropFirst_12 ?_
  refine zr_get (ci := 4) (k := 2) (v := .int (I v0 2)) C k0 (by decide) rfl zinX4 (by decide) wd_31 rfl dX4_dropFirst_13 ?_
  refine zr_icmp_ge (tgt := 39) C (by decide) dX4_dropFirst_16 (fun hc1 => ?_) (fun hc1 => ?_)
  · have h := zif_t hc1 h
    obtain rfl := zso h
    refine zr_lv (lv' := [(0, .ref v0), (2, .int v2), (3, .int v3)]) C [0, 1, 2] rfl ?_
    exact hx _ rfl
  · have h := zif_f hc1 h
    refine zr_aload_n C 0 rfl rfl dX4_dropFirst_19 ?_
    refine zr_get (ci := 4) (k := 0) (v := .ref (F v0 0)) C k0 (by decide) rfl zinX4 (by decide) wd_29 rfl dX4_dropFirst_20 ?_
    refine zr_iload_n C 2 rfl rfl dX4_dropFirst_23 ?_
    refine zr_iload_n C 1 rfl rfl dX4_dropFirst_24 ?_
    refine zr_isub C dX4_dropFirst_25 ?_
    refine zr_aload_n C 0 rfl rfl dX4_dropFirst_26 ?_
    refine zr_get (ci := 4) (k := 0) (v := .ref (F v0 0)) C k0 (by decide) rfl zinX4 (by decide) wd_29 rfl dX4_dropFirst_27 ?_
    refine zr_iload_n C 2 rfl rfl dX4_dropFirst_30 ?_
    obtain ⟨hc2, h⟩ := zck_e h
    refine zr_iald C (zt40 hZ k0).1 (zt40 hZ k0).2 hc2 dX4_dropFirst_31 ?_
    obtain ⟨hc3, h⟩ := zck_e h
    refine zr_iast C (zt40 hZ k0).1 (zt40 hZ k0).2 hc3 dX4_dropFirst_32 ?_
    obtain ⟨A4, eA4, h⟩ := zlet_e h
    rw [← eA4]
    refine zr_iinc (v := v3 + 1) (lv' := [(3, .int (v3 + 1)), (0, .ref v0), (2, .int v2)]) C 2 rfl rfl (by decide) rfl dX4_dropFirst_33 ?_
    refine zr_goto (tgt := 11) C (by decide) dX4_dropFirst_36 ?_
    obtain rfl := zso h
    refine zr_lv (lv' := [(0, .ref v0), (2, .int v2), (3, .int (v3 + 1))]) C [1, 2, 0] rfl ?_
    exact hg _ rfl
set_option maxHeartbeats 4000000 in
set_option maxRecDepth 100000 in
theorem w_X4_dropFirst_11 (l : Launch) (D : va_G) (cy : Nat → ClassId) {L : List Nat} {K N : Nat → Nat} {F G : Nat → Nat → Nat} (hZ : ZL L K N F G) {p : Program} {e : Env} {R : Room} {s : State} {m : MethodId} {args : Array Value} {below : List Frame} {meth : Method} {c : Code} {cells slots : Nat} {Q : State → Prop} (C : ZC p s m args meth c cX4_dropFirst yX4_dropFirst.cls 4 D cy L K N F G) (hRf : 0 ≤ R.frames) (hRl : 0 ≤ R.locals) (hRc : cells ≤ R.cells ∧ slots ≤ R.slots)  (v0 : Nat) (v2 : Int32) (k0 : K v0 = 4) (I : zH) (n : Nat) (x : Int32 × zH) (o : Int32 × zH) (h : zIt (fun x => g_X4_dropFirst_11 F G v0 v2 x.1 x.2 I) n x = some o)
    (hx : ZW p l e R s m args below meth c 4 D cy L K N F G cells slots Q I o.2 39 [(0, .ref v0), (2, .int v2), (3, .int o.1)] []) : ZW p l e R s m args below meth c 4 D cy L K N F G cells slots Q I x.2 11 [(0, .ref v0), (2, .int v2), (3, .int x.1)] [] := by
  induction n generalizing x with
  | zero => cases h
  | succ n ih =>
    unfold zIt at h
    cases hb : g_X4_dropFirst_11 F G v0 v2 x.1 x.2 I with
    | none => rw [hb] at h; cases h
    | some q =>
      rw [hb] at h
      refine wb_X4_dropFirst_11 l D cy hZ C hRf hRl hRc v0 v2 k0 I x.1 x.2 q hb (fun y hy => ?_) (fun y hy => ?_)
      · subst hy; exact ih y h
      · subst hy; cases h; exact hx
set_option maxHeartbeats 4000000 in
set_option maxRecDepth 100000 in
theorem c_X4_dropFirst (l : Launch) (D : va_G) (cy : Nat → ClassId) {L : List Nat} {K N : Nat → Nat} {F G : Nat → Nat → Nat} (hZ : ZL L K N F G) (h0 : Nat) (p0 : Int32) (k_h0 : K h0 = 4) (I A : zH) {J' : zH} {B' : zH} (h : f_X4_dropFirst F G h0 p0 I A = some (J', B')) : ZMv l yX4_dropFirst cX4_dropFirst 4 none { frames := 3, cells := 0, slots := 0, locals := 69 } D cy L K N F G [.ref h0, .int p0] I A J' B' := by
  refine ZMv.of (nL := 4) hZ rfl rfl (by decide) (Nat.le_of_ble_eq_true rfl) (fun p e s m args below meth c C hr => ?_)
  unfold f_X4_dropFirst at h
  refine zr_lv (lv' := [(0, .ref h0), (1, .int p0)]) C [0, 1] rfl ?_
  refine zr_iload_n C 1 rfl rfl dX4_dropFirst_0 ?_
  refine zr_aload_n C 0 rfl rfl dX4_dropFirst_1 ?_
  refine zr_get (ci := 4) (k := 2) (v := .int (I h0 2)) C k_h0 (by decide) rfl zinX4 (by decide) wd_31 rfl dX4_dropFirst_2 ?_
  refine zr_min C wd_299 wd_300 wd_14 wd_301 (Nat.le_of_ble_eq_true rfl) (Nat.le_of_ble_eq_true rfl) ⟨Nat.le_of_ble_eq_true rfl, Nat.le_of_ble_eq_true rfl⟩ dX4_dropFirst_5 ?_
  refine zr_istore_n (lv' := [(2, .int (if (I h0 2) < p0 then (I h0 2) else p0)), (0, .ref h0), (1, .int p0)]) C rfl (by decide) rfl dX4_dropFirst_8 ?_
  refine zr_iload_n C 0 rfl rfl dX4_dropFirst_9 ?_
  refine zr_istore_n (lv' := [(3, .int (if (I h0 2) < p0 then (I h0 2) else p0)), (2, .int (if (I h0 2) < p0 then (I h0 2) else p0)), (0, .ref h0), (1, .int p0)]) C rfl (by decide) rfl dX4_dropFirst_10 ?_
  obtain ⟨i1, A2, h8, h⟩ := zb2_e h
  refine zr_lv (lv' := [(0, .ref h0), (2, .int (if (I h0 2) < p0 then (I h0 2) else p0)), (3, .int (if (I h0 2) < p0 then (I h0 2) else p0))]) C [2, 1, 0] rfl ?_
  refine w_X4_dropFirst_11 l D cy hZ C (Nat.le_of_ble_eq_true rfl) (Nat.le_of_ble_eq_true rfl) ⟨Nat.le_of_ble_eq_true rfl, Nat.le_of_ble_eq_true rfl⟩ h0 (if (I h0 2) < p0 then (I h0 2) else p0) k_h0 I  2000 (if (I h0 2) < p0 then (I h0 2) else p0, A) (i1, A2) h8 ?_
  refine zr_aload_n C 0 rfl rfl dX4_dropFirst_39 ?_
  refine zr_dup C rfl dX4_dropFirst_40 ?_
  refine zr_get (ci := 4) (k := 2) (v := .int (I h0 2)) C k_h0 (by decide) rfl zinX4 (by decide) wd_31 rfl dX4_dropFirst_41 ?_
  refine zr_iload_n C 1 rfl rfl dX4_dropFirst_44 ?_
  refine zr_isub C dX4_dropFirst_45 ?_
  refine zr_put (ci := 4) (k := 2) (ty := .int) C tyX4 k_h0 (by decide) rfl zinX4 tyX4_ok nmX4 (by decide) wd_31 rfl (by decide +kernel) rfl rfl (Nat.le_of_ble_eq_true rfl) (zset_4_2 F _ _ _) dX4_dropFirst_46 ?_
  obtain ⟨I3, eI3, h⟩ := zlet_e h
  rw [← eI3]
  refine zr_aload_n C 0 rfl rfl dX4_dropFirst_49 ?_
  obtain ⟨I4, A5, h6, h⟩ := zb2_e h
  refine zr_callVv (n := 0) (As := []) C (c_X4_takePrints l D cy hZ h0 k_h0 I3 A2 h6) wd_275 wd_277 wp_1 wd_2 wd_278 (by decide +kernel) ⟨(Nat.le_of_ble_eq_true rfl), (Nat.le_of_ble_eq_true rfl)⟩ rfl rfl ⟨Nat.le_of_ble_eq_true rfl, Nat.le_of_ble_eq_true rfl⟩ k_h0 (by decide) rfl rfl rfl (Nat.le_of_ble_eq_true rfl) dX4_dropFirst_50 ?_
  cases zso h
  exact zr_vret C hr dX4_dropFirst_53

def g_X4_become_10 (F G : Nat → Nat → Nat) (v0 : Nat) (v1 : Nat) (v2 : Int32) (v3 : Int32) (A : zH) (I : zH) : Option ((Int32 × zH) ⊕ (Int32 × zH)) :=
  if (I v0 2) ≤ v3 then (
    some (.inr (v3, A))
  ) else (
    zck (¬ (v3 < 0 ∨ 12 ≤ v3.toNatClampNeg)) <|
    if 10 ≤ (A (F v1 0) v3.toNatClampNeg) then (
      zck (¬ (v3 < 0 ∨ 12 ≤ v3.toNatClampNeg)) <|
      zlet (up2 A (F v0 0) v3.toNatClampNeg (A (F v1 0) v3.toNatClampNeg)) fun A5 =>
      some (.inl (v3 + 1, A5))
    ) else (
      zck (¬ (v3 < 0 ∨ 12 ≤ v3.toNatClampNeg)) <|
      zlet (up2 A (F v0 0) v3.toNatClampNeg (((A (F v1 0) v3.toNatClampNeg) + v2) - ((A (F v1 0) v3.toNatClampNeg) + v2) / 10 * 10)) fun A7 =>
      some (.inl (v3 + 1, A7))
    )
  )
def f_X4_become (F G : Nat → Nat → Nat) (h0 : Nat) (r0 : Nat) (p1 : Int32) (I A : zH) : Option (zH × zH) :=
  zlet (up2 I h0 2 (I r0 2)) fun I1 =>
  zb2 (zIt (fun x => g_X4_become_10 F G h0 r0 p1 x.1 x.2 I1 ) 2000 (0, A)) fun i2 A3 =>
  zb2 (f_X4_takePrints F G h0 I1 A3) fun I4 A5 =>
  some (I4, A5)
set_option maxHeartbeats 4000000 in
set_option maxRecDepth 100000 in
theorem wb_X4_become_10 (l : Launch) (D : va_G) (cy : Nat → ClassId) {L : List Nat} {K N : Nat → Nat} {F G : Nat → Nat → Nat} (hZ : ZL L K N F G) {p : Program} {e : Env} {R : Room} {s : State} {m : MethodId} {args : Array Value} {below : List Frame} {meth : Method} {c : Code} {cells slots : Nat} {Q : State → Prop} (C : ZC p s m args meth c cX4_become yX4_become.cls 5 D cy L K N F G) (hRf : 0 ≤ R.frames) (hRl : 0 ≤ R.locals) (hRc : cells ≤ R.cells ∧ slots ≤ R.slots)  (v0 : Nat) (v1 : Nat) (v2 : Int32) (k0 : K v0 = 4) (k1 : K v1 = 4) (I : zH) (v3 : Int32) (A : zH) (o : (Int32 × zH) ⊕ (Int32 × zH)) (h : g_X4_become_10 F G v0 v1 v2 v3 A I = some o)
    (hg : ∀ y : Int32 × zH, o = .inl y → ZW p l e R s m args below meth c 5 D cy L K N F G cells slots Q I y.2 10 [(0, .ref v0), (1, .ref v1), (2, .int v2), (3, .int y.1)] [])
    (hx : ∀ y : Int32 × zH, o = .inr y → ZW p l e R s m args below meth c 5 D cy L K N F G cells slots Q I y.2 57 [(0, .ref v0), (1, .ref v1), (2, .int v2), (3, .int y.1)] []) : ZW p l e R s m args below meth c 5 D cy L K N F G cells slots Q I A 10 [(0, .ref v0), (1, .ref v1), (2, .int v2), (3, .int v3)] [] := by
  unfold g_X4_become_10 at h
  refine zr_iload_n C 3 rfl rfl dX4_become_10 ?_
  refine zr_aload_n C 0 rfl rfl dX4_become_11 ?_
  refine zr_get (ci := 4) (k := 2) (v := .int (I v0 2)) C k0 (by decide) rfl zinX4 (by decide) wd_31 rfl dX4_become_12 ?_
  refine zr_icmp_ge (tgt := 57) C (by decide) dX4_become_15 (fun hc1 => ?_) (fun hc1 => ?_)
  · have h := zif_t hc1 h
    obtain rfl := zso h
    refine zr_lv (lv' := [(0, .ref v0), (1, .ref v1), (2, .int v2), (3, .int v3)]) C [0, 1, 2, 3] rfl ?_
    exact hx _ rfl
  · have h := zif_f hc1 h
    refine zr_aload_n C 1 rfl rfl dX4_become_18 ?_
    refine zr_get (ci := 4) (k := 0) (v := .ref (F v1 0)) C k1 (by decide) rfl zinX4 (by decide) wd_29 rfl dX4_become_19 ?_
    refine zr_iload_n C 3 rfl rfl dX4_become_22 ?_
    obtain ⟨hc2, h⟩ := zck_e h
    refine zr_iald C (zt40 hZ k1).1 (zt40 hZ k1).2 hc2 dX4_become_23 ?_
    refine zr_istore (lv' := [(4, .int (A (F v1 0) v3.toNatClampNeg)), (0, .ref v0), (1, .ref v1), (2, .int v2), (3, .int v3)]) C (by decide) rfl dX4_become_24 ?_
    refine zr_aload_n C 1 rfl rfl dX4_become_26 ?_
    refine zr_get (ci := 4) (k := 0) (v := .ref (F v0 0)) C k0 (by decide) rfl zinX4 (by decide) wd_29 rfl dX4_become_27 ?_
    refine zr_iload_n C 4 rfl rfl dX4_become_30 ?_
    refine zr_iload C 0 rfl dX4_become_31 ?_
    refine zr_bipush (v := 10) C (by decide) dX4_become_33 ?_
    refine zr_icmp_ge (tgt := 48) C (by decide) dX4_become_35 (fun hc3 => ?_) (fun hc3 => ?_)
    · have h := zif_t hc3 h
      refine zr_iload C 0 rfl dX4_become_48 ?_
      obtain ⟨hc4, h⟩ := zck_e h
      refine zr_iast C (zt40 hZ k0).1 (zt40 hZ k0).2 hc4 dX4_become_50 ?_
      obtain ⟨A5, eA5, h⟩ := zlet_e h
      rw [← eA5]
      refine zr_iinc (v := v3 + 1) (lv' := [(3, .int (v3 + 1)), (4, .int (A (F v1 0) v3.toNatClampNeg)), (0, .ref v0), (1, .ref v1), (2, .int v2)]) C 4 rfl rfl (by decide) rfl dX4_become_51 ?_
      refine zr_goto (tgt := 10) C (by decide) dX4_become_54 ?_
      obtain rfl := zso h
      refine zr_lv (lv' := [(0, .ref v0), (1, .ref v1), (2, .int v2), (3, .int (v3 + 1))]) C [2, 3, 4, 0] rfl ?_
      exact hg _ rfl
    · have h := zif_f hc3 h
      refine zr_iload C 0 rfl dX4_become_38 ?_
      refine zr_iload_n C 3 rfl rfl dX4_become_40 ?_
      refine zr_iadd C dX4_become_41 ?_
      refine zr_bipush (v := 10) C (by decide) dX4_become_42 ?_
      refine zr_irem C (by decide) dX4_become_44 ?_
      refine zr_goto (tgt := 50) C (by decide) dX4_become_45 ?_
      obtain ⟨hc6, h⟩ := zck_e h
      refine zr_iast C (zt40 hZ k0).1 (zt40 hZ k0).2 hc6 dX4_become_50 ?_
      obtain ⟨A7, eA7, h⟩ := zlet_e h
      rw [← eA7]
      refine zr_iinc (v := v3 + 1) (lv' := [(3, .int (v3 + 1)), (4, .int (A (F v1 0) v3.toNatClampNeg)), (0, .ref v0), (1, .ref v1), (2, .int v2)]) C 4 rfl rfl (by decide) rfl dX4_become_51 ?_
      refine zr_goto (tgt := 10) C (by decide) dX4_become_54 ?_
      obtain rfl := zso h
      refine zr_lv (lv' := [(0, .ref v0), (1, .ref v1), (2, .int v2), (3, .int (v3 + 1))]) C [2, 3, 4, 0] rfl ?_
      exact hg _ rfl
set_option maxHeartbeats 4000000 in
set_option maxRecDepth 100000 in
theorem w_X4_become_10 (l : Launch) (D : va_G) (cy : Nat → ClassId) {L : List Nat} {K N : Nat → Nat} {F G : Nat → Nat → Nat} (hZ : ZL L K N F G) {p : Program} {e : Env} {R : Room} {s : State} {m : MethodId} {args : Array Value} {below : List Frame} {meth : Method} {c : Code} {cells slots : Nat} {Q : State → Prop} (C : ZC p s m args meth c cX4_become yX4_become.cls 5 D cy L K N F G) (hRf : 0 ≤ R.frames) (hRl : 0 ≤ R.locals) (hRc : cells ≤ R.cells ∧ slots ≤ R.slots)  (v0 : Nat) (v1 : Nat) (v2 : Int32) (k0 : K v0 = 4) (k1 : K v1 = 4) (I : zH) (n : Nat) (x : Int32 × zH) (o : Int32 × zH) (h : zIt (fun x => g_X4_become_10 F G v0 v1 v2 x.1 x.2 I) n x = some o)
    (hx : ZW p l e R s m args below meth c 5 D cy L K N F G cells slots Q I o.2 57 [(0, .ref v0), (1, .ref v1), (2, .int v2), (3, .int o.1)] []) : ZW p l e R s m args below meth c 5 D cy L K N F G cells slots Q I x.2 10 [(0, .ref v0), (1, .ref v1), (2, .int v2), (3, .int x.1)] [] := by
  induction n generalizing x with
  | zero => cases h
  | succ n ih =>
    unfold zIt at h
    cases hb : g_X4_become_10 F G v0 v1 v2 x.1 x.2 I with
    | none => rw [hb] at h; cases h
    | some q =>
      rw [hb] at h
      refine wb_X4_become_10 l D cy hZ C hRf hRl hRc v0 v1 v2 k0 k1 I x.1 x.2 q hb (fun y hy => ?_) (fun y hy => ?_)
      · subst hy; exact ih y h
      · subst hy; cases h; exact hx
set_option maxHeartbeats 4000000 in
set_option maxRecDepth 100000 in
theorem c_X4_become (l : Launch) (D : va_G) (cy : Nat → ClassId) {L : List Nat} {K N : Nat → Nat} {F G : Nat → Nat → Nat} (hZ : ZL L K N F G) (h0 : Nat) (r0 : Nat) (p1 : Int32) (k_h0 : K h0 = 4) (k_r0 : K r0 = 4) (I A : zH) {J' : zH} {B' : zH} (h : f_X4_become F G h0 r0 p1 I A = some (J', B')) : ZMv l yX4_become cX4_become 5 none { frames := 3, cells := 0, slots := 0, locals := 69 } D cy L K N F G [.ref h0, .ref r0, .int p1] I A J' B' := by
  refine ZMv.of (nL := 5) hZ rfl rfl (by decide) (Nat.le_of_ble_eq_true rfl) (fun p e s m args below meth c C hr => ?_)
  unfold f_X4_become at h
  refine zr_lv (lv' := [(0, .ref h0), (1, .ref r0), (2, .int p1)]) C [0, 1, 2] rfl ?_
  refine zr_aload_n C 0 rfl rfl dX4_become_0 ?_
  refine zr_aload_n C 1 rfl rfl dX4_become_1 ?_
  refine zr_get (ci := 4) (k := 2) (v := .int (I r0 2)) C k_r0 (by decide) rfl zinX4 (by decide) wd_31 rfl dX4_become_2 ?_
  refine zr_put (ci := 4) (k := 2) (ty := .int) C tyX4 k_h0 (by decide) rfl zinX4 tyX4_ok nmX4 (by decide) wd_31 rfl (by decide +kernel) rfl rfl (Nat.le_of_ble_eq_true rfl) (zset_4_2 F _ _ _) dX4_become_5 ?_
  obtain ⟨I1, eI1, h⟩ := zlet_e h
  rw [← eI1]
  refine zr_iconst (v := 0) C (by decide) dX4_become_8 ?_
  refine zr_istore_n (lv' := [(3, .int 0), (0, .ref h0), (1, .ref r0), (2, .int p1)]) C rfl (by decide) rfl dX4_become_9 ?_
  obtain ⟨i2, A3, h8, h⟩ := zb2_e h
  refine zr_lv (lv' := [(0, .ref h0), (1, .ref r0), (2, .int p1), (3, .int 0)]) C [1, 2, 3, 0] rfl ?_
  refine w_X4_become_10 l D cy hZ C (Nat.le_of_ble_eq_true rfl) (Nat.le_of_ble_eq_true rfl) ⟨Nat.le_of_ble_eq_true rfl, Nat.le_of_ble_eq_true rfl⟩ h0 r0 p1 k_h0 k_r0 I1  2000 (0, A) (i2, A3) h8 ?_
  refine zr_aload_n C 0 rfl rfl dX4_become_57 ?_
  obtain ⟨I4, A5, h6, h⟩ := zb2_e h
  refine zr_callVv (n := 0) (As := []) C (c_X4_takePrints l D cy hZ h0 k_h0 I1 A3 h6) wd_275 wd_277 wp_1 wd_2 wd_278 (by decide +kernel) ⟨(Nat.le_of_ble_eq_true rfl), (Nat.le_of_ble_eq_true rfl)⟩ rfl rfl ⟨Nat.le_of_ble_eq_true rfl, Nat.le_of_ble_eq_true rfl⟩ k_h0 (by decide) rfl rfl rfl (Nat.le_of_ble_eq_true rfl) dX4_become_58 ?_
  cases zso h
  exact zr_vret C hr dX4_become_61

