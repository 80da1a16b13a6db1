def g_X3_usesOf_4 (F G : Nat → Nat → Nat) (v0 : Nat) (v1 : Int32) (v2 : Int32) (v3 : Int32) (I : zH) (A : zH) : Option ((Int32 × Int32) ⊕ (Int32 × Int32)) :=
  if 10 ≤ v3 then (
    some (.inr (v2, v3))
  ) else (
    zb (f_X5_hasBit F G (I v0 4) v3 I A) fun r2 =>
    if r2 = 0 then (
      some (.inl (v2, v3 + 1))
    ) else (
      zck (¬ (v3 < 0 ∨ 10 ≤ v3.toNatClampNeg)) <|
      if (A (F v0 2) v3.toNatClampNeg) = v1 then (
        some (.inl (v2 + 1, v3 + 1))
      ) else (
        some (.inl (v2, v3 + 1))
      )
    )
  )
def f_X3_usesOf (F G : Nat → Nat → Nat) (h0 : Nat) (p0 : Int32) (I A : zH) : Option (Int32) :=
  zb2 (zIt (fun x => g_X3_usesOf_4 F G h0 p0 x.1 x.2 I A) 2000 (0, 0)) fun i1 i2 =>
  some i1
set_option maxHeartbeats 4000000 in
set_option maxRecDepth 100000 in
theorem wb_X3_usesOf_4 (l : Launch) (D : va_G) (cy : Nat → ClassId) {L : List Nat} {K N : Nat → Nat} {F G : Nat → Nat → Nat} (hZ : ZL L K N F G) {p : Program} {e : Env} {R : Room} {s : State} {m : MethodId} {args : Array Value} {below : List Frame} {meth : Method} {c : Code} {cells slots : Nat} {Q : State → Prop} (C : ZC p s m args meth c cX3_usesOf yX3_usesOf.cls 4 D cy L K N F G) (hRf : 1 ≤ R.frames) (hRl : 21 ≤ R.locals) (hRc : cells ≤ R.cells ∧ slots ≤ R.slots)  (v0 : Nat) (v1 : Int32) (k0 : K v0 = 3) (I : zH) (A : zH) (v2 : Int32) (v3 : Int32) (o : (Int32 × Int32) ⊕ (Int32 × Int32)) (h : g_X3_usesOf_4 F G v0 v1 v2 v3 I A = some o)
    (hg : ∀ y : Int32 × Int32, o = .inl y → ZW p l e R s m args below meth c 4 D cy L K N F G cells slots Q I A 4 [(0, .ref v0), (1, .int v1), (2, .int y.1), (3, .int y.2)] [])
    (hx : ∀ y : Int32 × Int32, o = .inr y → ZW p l e R s m args below meth c 4 D cy L K N F G cells slots Q I A 40 [(0, .ref v0), (1, .int v1), (2, .int y.1), (3, .int y.2)] []) : ZW p l e R s m args below meth c 4 D cy L K N F G cells slots Q I A 4 [(0, .ref v0), (1, .int v1), (2, .int v2), (3, .int v3)] [] := by
  unfold g_X3_usesOf_4 at h
  refine zr_iload_n C 3 rfl rfl dX3_usesOf_4 ?_
  refine zr_bipush (v := 10) C (by decide) dX3_usesOf_5 ?_
  refine zr_icmp_ge (tgt := 40) C (by decide) dX3_usesOf_7 (fun hc1 => ?_) (fun hc1 => ?_)
  · have h := zif_t hc1 h
    obtain rfl := zso h
    refine zr_lv (lv' := [(0, .ref v0), (1, .int v1), (2, .int v2), (3, .int v3)]) C [0, 1, 2, 3] rfl ?_
    exact hx _ rfl
  · have h := zif_f hc1 h
    refine zr_aload_n C 0 rfl rfl dX3_usesOf_10 ?_
    refine zr_get (ci := 3) (k := 4) (v := .int (I v0 4)) C k0 (by decide) rfl zinX3 (by decide) wd_133 rfl dX3_usesOf_11 ?_
    refine zr_iload_n C 3 rfl rfl dX3_usesOf_14 ?_
    obtain ⟨r2, h3, h⟩ := zb_e h
    refine zr_callNi (n := 2) (As := [.int (I v0 4), .int v3]) C (c_X5_hasBit l D cy hZ (I v0 4) v3 I A h3) C.nb.2 wd_323 wd_1 wd_324 (by decide +kernel) ⟨(Nat.le_trans (Nat.le_of_ble_eq_true rfl) hRf), (Nat.le_trans (Nat.le_of_ble_eq_true rfl) hRl)⟩ rfl rfl hRc rfl rfl (Nat.le_of_ble_eq_true rfl) dX3_usesOf_15 ?_
    refine zr_if_eq (tgt := 34) C (by decide) dX3_usesOf_18 (fun hc5 => ?_) (fun hc5 => ?_)
    · have h := zif_t hc5 h
      refine zr_iinc (v := v3 + 1) (lv' := [(3, .int (v3 + 1)), (0, .ref v0), (1, .int v1), (2, .int v2)]) C 3 rfl rfl (by decide) rfl dX3_usesOf_34 ?_
      refine zr_goto (tgt := 4) C (by decide) dX3_usesOf_37 ?_
      obtain rfl := zso h
      refine zr_lv (lv' := [(0, .ref v0), (1, .int v1), (2, .int v2), (3, .int (v3 + 1))]) C [1, 2, 3, 0] rfl ?_
      exact hg _ rfl
    · have h := zif_f hc5 h
      refine zr_aload_n C 0 rfl rfl dX3_usesOf_21 ?_
      refine zr_get (ci := 3) (k := 2) (v := .ref (F v0 2)) C k0 (by decide) rfl zinX3 (by decide) wd_130 rfl dX3_usesOf_22 ?_
      refine zr_iload_n C 3 rfl rfl dX3_usesOf_25 ?_
      obtain ⟨hc6, h⟩ := zck_e h
      refine zr_iald C (zt3 hZ k0 2 (by decide)).1 (zt3 hZ k0 2 (by decide)).2 hc6 dX3_usesOf_26 ?_
      refine zr_iload_n C 1 rfl rfl dX3_usesOf_27 ?_
      refine zr_icmp_ne (tgt := 34) C (by decide) dX3_usesOf_28 (fun hc7 => ?_) (fun hc7 => ?_)
      · have h := zif_f hc7 h
        refine zr_iinc (v := v3 + 1) (lv' := [(3, .int (v3 + 1)), (0, .ref v0), (1, .int v1), (2, .int v2)]) C 3 rfl rfl (by decide) rfl dX3_usesOf_34 ?_
        refine zr_goto (tgt := 4) C (by decide) dX3_usesOf_37 ?_
        obtain rfl := zso h
        refine zr_lv (lv' := [(0, .ref v0), (1, .int v1), (2, .int v2), (3, .int (v3 + 1))]) C [1, 2, 3, 0] rfl ?_
        exact hg _ rfl
      · have h := zif_t hc7 h
        refine zr_iinc (v := v2 + 1) (lv' := [(2, .int (v2 + 1)), (0, .ref v0), (1, .int v1), (3, .int v3)]) C 2 rfl rfl (by decide) rfl dX3_usesOf_31 ?_
        refine zr_iinc (v := v3 + 1) (lv' := [(3, .int (v3 + 1)), (2, .int (v2 + 1)), (0, .ref v0), (1, .int v1)]) C 3 rfl rfl (by decide) rfl dX3_usesOf_34 ?_
        refine zr_goto (tgt := 4) C (by decide) dX3_usesOf_37 ?_
        obtain rfl := zso h
        refine zr_lv (lv' := [(0, .ref v0), (1, .int v1), (2, .int (v2 + 1)), (3, .int (v3 + 1))]) C [2, 3, 1, 0] rfl ?_
        exact hg _ rfl
set_option maxHeartbeats 4000000 in
set_option maxRecDepth 100000 in
theorem w_X3_usesOf_4 (l : Launch) (D : va_G) (cy : Nat → ClassId) {L : List Nat} {K N : Nat → Nat} {F G : Nat → Nat → Nat} (hZ : ZL L K N F G) {p : Program} {e : Env} {R : Room} {s : State} {m : MethodId} {args : Array Value} {below : List Frame} {meth : Method} {c : Code} {cells slots : Nat} {Q : State → Prop} (C : ZC p s m args meth c cX3_usesOf yX3_usesOf.cls 4 D cy L K N F G) (hRf : 1 ≤ R.frames) (hRl : 21 ≤ R.locals) (hRc : cells ≤ R.cells ∧ slots ≤ R.slots)  (v0 : Nat) (v1 : Int32) (k0 : K v0 = 3) (I : zH) (A : zH) (n : Nat) (x : Int32 × Int32) (o : Int32 × Int32) (h : zIt (fun x => g_X3_usesOf_4 F G v0 v1 x.1 x.2 I A) n x = some o)
    (hx : ZW p l e R s m args below meth c 4 D cy L K N F G cells slots Q I A 40 [(0, .ref v0), (1, .int v1), (2, .int o.1), (3, .int o.2)] []) : ZW p l e R s m args below meth c 4 D cy L K N F G cells slots Q I A 4 [(0, .ref v0), (1, .int v1), (2, .int x.1), (3, .int x.2)] [] := by
  induction n generalizing x with
  | zero => cases h
  | succ n ih =>
    unfold zIt at h
    cases hb : g_X3_usesOf_4 F G v0 v1 x.1 x.2 I A with
    | none => rw [hb] at h; cases h
    | some q =>
      rw [hb] at h
      refine wb_X3_usesOf_4 l D cy hZ C hRf hRl hRc v0 v1 k0 I A x.1 x.2 q hb (fun y hy => ?_) (fun y hy => ?_)
      · subst hy; exact ih y h
      · subst hy; cases h; exact hx
set_option maxHeartbeats 4000000 in
set_option maxRecDepth 100000 in
theorem c_X3_usesOf (l : Launch) (D : va_G) (cy : Nat → ClassId) {L : List Nat} {K N : Nat → Nat} {F G : Nat → Nat → Nat} (hZ : ZL L K N F G) (h0 : Nat) (p0 : Int32) (k_h0 : K h0 = 3) (I A : zH) {r : Int32} (h : f_X3_usesOf F G h0 p0 I A = some r) : ZMi l yX3_usesOf cX3_usesOf 4 (some .int) { frames := 1, cells := 0, slots := 0, locals := 21 } D cy L K N F G [.ref h0, .int p0] I A r I A := by
  refine ZMi.of (nL := 4) hZ rfl rfl (by decide) (Nat.le_of_ble_eq_true rfl) (fun p e s m args below meth c C hr => ?_)
  unfold f_X3_usesOf at h
  refine zr_lv (lv' := [(0, .ref h0), (1, .int p0)]) C [0, 1] rfl ?_
  refine zr_iconst (v := 0) C (by decide) dX3_usesOf_0 ?_
  refine zr_istore_n (lv' := [(2, .int 0), (0, .ref h0), (1, .int p0)]) C rfl (by decide) rfl dX3_usesOf_1 ?_
  refine zr_iconst (v := 0) C (by decide) dX3_usesOf_2 ?_
  refine zr_istore_n (lv' := [(3, .int 0), (2, .int 0), (0, .ref h0), (1, .int p0)]) C rfl (by decide) rfl dX3_usesOf_3 ?_
  obtain ⟨i1, i2, h3, h⟩ := zb2_e h
  refine zr_lv (lv' := [(0, .ref h0), (1, .int p0), (2, .int 0), (3, .int 0)]) C [2, 3, 1, 0] rfl ?_
  refine w_X3_usesOf_4 l D cy hZ C (Nat.le_of_ble_eq_true rfl) (Nat.le_of_ble_eq_true rfl) ⟨Nat.le_of_ble_eq_true rfl, Nat.le_of_ble_eq_true rfl⟩ h0 p0 k_h0 I A 2000 (0, 0) (i1, i2) h3 ?_
  refine zr_iload_n C 2 rfl rfl dX3_usesOf_40 ?_
  obtain rfl := zso h
  exact zr_iret C hr dX3_usesOf_41

def f_X3_isFar (F G : Nat → Nat → Nat) (h0 : Nat) (p0 : Int32) (p1 : Int32) (I A : zH) : Option (Int32) :=
  if p0 = p1 then (
    some 0
  ) else (
    zck (¬ (p0 < 0 ∨ 10 ≤ p0.toNatClampNeg)) <|
    zck (¬ (p1 < 0 ∨ 10 ≤ p1.toNatClampNeg)) <|
    if ((((A (F h0 1) p0.toNatClampNeg) >>> (p1 &&& 31)) ||| ((A (F h0 1) p1.toNatClampNeg) >>> (p0 &&& 31))) &&& 1) = 0 then (
      some 1
    ) else (
      some 0
    )
  )
set_option maxHeartbeats 4000000 in
set_option maxRecDepth 100000 in
theorem c_X3_isFar (l : Launch) (D : va_G) (cy : Nat → ClassId) {L : List Nat} {K N : Nat → Nat} {F G : Nat → Nat → Nat} (hZ : ZL L K N F G) (h0 : Nat) (p0 : Int32) (p1 : Int32) (k_h0 : K h0 = 3) (I A : zH) {r : Int32} (h : f_X3_isFar F G h0 p0 p1 I A = some r) : ZMi l yX3_isFar cX3_isFar 3 (some .boolean) { frames := 0, cells := 0, slots := 0, locals := 0 } D cy L K N F G [.ref h0, .int p0, .int p1] I A r I A := by
  refine ZMi.of (nL := 3) hZ rfl rfl (by decide) (Nat.le_of_ble_eq_true rfl) (fun p e s m args below meth c C hr => ?_)
  unfold f_X3_isFar at h
  refine zr_lv (lv' := [(0, .ref h0), (1, .int p0), (2, .int p1)]) C [0, 1, 2] rfl ?_
  refine zr_iload_n C 1 rfl rfl dX3_isFar_0 ?_
  refine zr_iload_n C 2 rfl rfl dX3_isFar_1 ?_
  refine zr_icmp_eq (tgt := 31) C (by decide) dX3_isFar_2 (fun hc1 => ?_) (fun hc1 => ?_)
  · have h := zif_t hc1 h
    refine zr_iconst (v := 0) C (by decide) dX3_isFar_31 ?_
    obtain rfl := zso h
    exact zr_zret C hr rfl dX3_isFar_32
  · have h := zif_f hc1 h
    refine zr_aload_n C 0 rfl rfl dX3_isFar_5 ?_
    refine zr_get (ci := 3) (k := 1) (v := .ref (F h0 1)) C k_h0 (by decide) rfl zinX3 (by decide) wd_128 rfl dX3_isFar_6 ?_
    refine zr_iload_n C 1 rfl rfl dX3_isFar_9 ?_
    obtain ⟨hc2, h⟩ := zck_e h
    refine zr_iald C (zt3 hZ k_h0 1 (by decide)).1 (zt3 hZ k_h0 1 (by decide)).2 hc2 dX3_isFar_10 ?_
    refine zr_iload_n C 2 rfl rfl dX3_isFar_11 ?_
    refine zr_ishr C dX3_isFar_12 ?_
    refine zr_aload_n C 0 rfl rfl dX3_isFar_13 ?_
    refine zr_get (ci := 3) (k := 1) (v := .ref (F h0 1)) C k_h0 (by decide) rfl zinX3 (by decide) wd_128 rfl dX3_isFar_14 ?_
    refine zr_iload_n C 2 rfl rfl dX3_isFar_17 ?_
    obtain ⟨hc3, h⟩ := zck_e h
    refine zr_iald C (zt3 hZ k_h0 1 (by decide)).1 (zt3 hZ k_h0 1 (by decide)).2 hc3 dX3_isFar_18 ?_
    refine zr_iload_n C 1 rfl rfl dX3_isFar_19 ?_
    refine zr_ishr C dX3_isFar_20 ?_
    refine zr_ior C dX3_isFar_21 ?_
    refine zr_iconst (v := 1) C (by decide) dX3_isFar_22 ?_
    refine zr_iand C dX3_isFar_23 ?_
    refine zr_if_ne (tgt := 31) C (by decide) dX3_isFar_24 (fun hc4 => ?_) (fun hc4 => ?_)
    · have h := zif_f hc4 h
      refine zr_iconst (v := 0) C (by decide) dX3_isFar_31 ?_
      obtain rfl := zso h
      exact zr_zret C hr rfl dX3_isFar_32
    · have h := zif_t hc4 h
      refine zr_iconst (v := 1) C (by decide) dX3_isFar_27 ?_
      refine zr_goto (tgt := 32) C (by decide) dX3_isFar_28 ?_
      obtain rfl := zso h
      exact zr_zret C hr rfl dX3_isFar_32

def g_X3_clashesOf_6 (F G : Nat → Nat → Nat) (v0 : Nat) (v1 : Int32) (v2 : Int32) (v3 : Nat) (v4 : Int32) (v5 : Int32) (I : zH) (A : zH) : Option ((Int32 × Int32) ⊕ (Int32 × Int32)) :=
  if 10 ≤ v5 then (
    some (.inr (v4, v5))
  ) else (
    zb (f_X5_hasBit F G (I v0 4) v5 I A) fun r2 =>
    if r2 = 0 then (
      some (.inl (v4, v5 + 1))
    ) else (
      if v5 = v1 then (
        zb (f_X3_isFar F G v0 v1 v5 I A) fun r15 =>
        zb (f_X0_isClash F G v3 v2 v2 r15 I A) fun r18 =>
        if r18 = 0 then (
          some (.inl (v4, v5 + 1))
        ) else (
          some (.inl (v4 ||| ((1 : Int32) <<< (v5 &&& 31)), v5 + 1))
        )
      ) else (
        zck (¬ (v5 < 0 ∨ 10 ≤ v5.toNatClampNeg)) <|
        zb (f_X3_isFar F G v0 v1 v5 I A) fun r8 =>
        zb (f_X0_isClash F G v3 v2 (A (F v0 2) v5.toNatClampNeg) r8 I A) fun r11 =>
        if r11 = 0 then (
          some (.inl (v4, v5 + 1))
        ) else (
          some (.inl (v4 ||| ((1 : Int32) <<< (v5 &&& 31)), v5 + 1))
        )
      )
    )
  )
def f_X3_clashesOf (F G : Nat → Nat → Nat) (h0 : Nat) (p0 : Int32) (p1 : Int32) (r2 : Nat) (I A : zH) : Option (Int32) :=
  zb2 (zIt (fun x => g_X3_clashesOf_6 F G h0 p0 p1 r2 x.1 x.2 I A) 2000 (0, 0)) fun i1 i2 =>
  some i1
set_option maxHeartbeats 4000000 in
set_option maxRecDepth 100000 in
theorem wb_X3_clashesOf_6 (l : Launch) (D : va_G) (cy : Nat → ClassId) {L : List Nat} {K N : Nat → Nat} {F G : Nat → Nat → Nat} (hZ : ZL L K N F G) {p : Program} {e : Env} {R : Room} {s : State} {m : MethodId} {args : Array Value} {below : List Frame} {meth : Method} {c : Code} {cells slots : Nat} {Q : State → Prop} (C : ZC p s m args meth c cX3_clashesOf yX3_clashesOf.cls 7 D cy L K N F G) (hRf : 1 ≤ R.frames) (hRl : 24 ≤ R.locals) (hRc : cells ≤ R.cells ∧ slots ≤ R.slots)  (v0 : Nat) (v1 : Int32) (v2 : Int32) (v3 : Nat) (k0 : K v0 = 3) (k3 : K v3 = 0) (I : zH) (A : zH) (v4 : Int32) (v5 : Int32) (o : (Int32 × Int32) ⊕ (Int32 × Int32)) (h : g_X3_clashesOf_6 F G v0 v1 v2 v3 v4 v5 I A = some o)
    (hg : ∀ y : Int32 × Int32, o = .inl y → ZW p l e R s m args below meth c 7 D cy L K N F G cells slots Q I A 6 [(0, .ref v0), (1, .int v1), (2, .int v2), (3, .ref v3), (4, .int y.1), (5, .int y.2)] [])
    (hx : ∀ y : Int32 × Int32, o = .inr y → ZW p l e R s m args below meth c 7 D cy L K N F G cells slots Q I A 76 [(0, .ref v0), (1, .int v1), (2, .int v2), (3, .ref v3), (4, .int y.1), (5, .int y.2)] []) : ZW p l e R s m args below meth c 7 D cy L K N F G cells slots Q I A 6 [(0, .ref v0), (1, .int v1), (2, .int v2), (3, .ref v3), (4, .int v4), (5, .int v5)] [] := by
  unfold g_X3_clashesOf_6 at h
  refine zr_iload C 5 rfl dX3_clashesOf_6 ?_
  refine zr_bipush (v := 10) C (by decide) dX3_clashesOf_8 ?_
  refine zr_icmp_ge (tgt := 76) C (by decide) dX3_clashesOf_10 (fun hc1 => ?_) (fun hc1 => ?_)
  · have h := zif_t hc1 h
    obtain rfl := zso h
    refine zr_lv (lv' := [(0, .ref v0), (1, .int v1), (2, .int v2), (3, .ref v3), (4, .int v4), (5, .int v5)]) C [0, 1, 2, 3, 4, 5] rfl ?_
    exact hx _ rfl
  · have h := zif_f hc1 h
    refine zr_aload_n C 0 rfl rfl dX3_clashesOf_13 ?_
    refine zr_get (ci := 3) (k := 4) (v := .int (I v0 4)) C k0 (by decide) rfl zinX3 (by decide) wd_133 rfl dX3_clashesOf_14 ?_
    refine zr_iload C 5 rfl dX3_clashesOf_17 ?_
    obtain ⟨r2, h3, h⟩ := zb_e h
    refine zr_callNi (n := 2) (As := [.int (I v0 4), .int v5]) C (c_X5_hasBit l D cy hZ (I v0 4) v5 I A h3) C.nb.2 wd_323 wd_1 wd_324 (by decide +kernel) ⟨(Nat.le_trans (Nat.le_of_ble_eq_true rfl) hRf), (Nat.le_trans (Nat.le_of_ble_eq_true rfl) hRl)⟩ rfl rfl hRc rfl rfl (Nat.le_of_ble_eq_true rfl) dX3_clashesOf_19 ?_
    refine zr_if_eq (tgt := 70) C (by decide) dX3_clashesOf_22 (fun hc5 => ?_) (fun hc5 => ?_)
    · have h := zif_t hc5 h
      refine zr_iinc (v := v5 + 1) (lv' := [(5, .int (v5 + 1)), (0, .ref v0), (1, .int v1), (2, .int v2), (3, .ref v3), (4, .int v4)]) C 5 rfl rfl (by decide) rfl dX3_clashesOf_70 ?_
      refine zr_goto (tgt := 6) C (by decide) dX3_clashesOf_73 ?_
      obtain rfl := zso h
      refine zr_lv (lv' := [(0, .ref v0), (1, .int v1), (2, .int v2), (3, .ref v3), (4, .int v4), (5, .int (v5 + 1))]) C [1, 2, 3, 4, 5, 0] rfl ?_
      exact hg _ rfl
    · have h := zif_f hc5 h
      refine zr_iload C 5 rfl dX3_clashesOf_25 ?_
      refine zr_iload_n C 1 rfl rfl dX3_clashesOf_27 ?_
      refine zr_icmp_ne (tgt := 35) C (by decide) dX3_clashesOf_28 (fun hc6 => ?_) (fun hc6 => ?_)
      · have h := zif_f hc6 h
        refine zr_aload_n C 0 rfl rfl dX3_clashesOf_35 ?_
        refine zr_get (ci := 3) (k := 2) (v := .ref (F v0 2)) C k0 (by decide) rfl zinX3 (by decide) wd_130 rfl dX3_clashesOf_36 ?_
        refine zr_iload C 5 rfl dX3_clashesOf_39 ?_
        obtain ⟨hc7, h⟩ := zck_e h
        refine zr_iald C (zt3 hZ k0 2 (by decide)).1 (zt3 hZ k0 2 (by decide)).2 hc7 dX3_clashesOf_41 ?_
        refine zr_istore (lv' := [(6, .int (A (F v0 2) v5.toNatClampNeg)), (0, .ref v0), (1, .int v1), (2, .int v2), (3, .ref v3), (4, .int v4), (5, .int v5)]) C (by decide) rfl dX3_clashesOf_42 ?_
        refine zr_aload_n C 4 rfl rfl dX3_clashesOf_44 ?_
        refine zr_iload_n C 3 rfl rfl dX3_clashesOf_45 ?_
        refine zr_iload C 0 rfl dX3_clashesOf_46 ?_
        refine zr_aload_n C 1 rfl rfl dX3_clashesOf_48 ?_
        refine zr_iload_n C 2 rfl rfl dX3_clashesOf_49 ?_
        refine zr_iload C 6 rfl dX3_clashesOf_50 ?_
        obtain ⟨r8, h9, h⟩ := zb_e h
        refine zr_callVi (n := 2) (As := [.int v1, .int v5]) C (c_X3_isFar l D cy hZ v0 v1 v5 k0 I A h9) wd_350 wd_352 wp_9 wd_6 wd_353 (by decide +kernel) ⟨(Nat.le_trans (Nat.le_of_ble_eq_true rfl) hRf), (Nat.le_trans (Nat.le_of_ble_eq_true rfl) hRl)⟩ rfl rfl hRc k0 (by decide) rfl rfl rfl (Nat.le_of_ble_eq_true rfl) dX3_clashesOf_52 ?_
        obtain ⟨r11, h12, h⟩ := zb_e h
        refine zr_callVi (n := 3) (As := [.int v2, .int (A (F v0 2) v5.toNatClampNeg), .int r8]) C (c_X0_isClash l D cy hZ v3 v2 (A (F v0 2) v5.toNatClampNeg) r8 k3 I A h12) wd_354 wd_355 wd_356 wd_3 wd_357 (by decide +kernel) ⟨(Nat.le_trans (Nat.le_of_ble_eq_true rfl) hRf), (Nat.le_trans (Nat.le_of_ble_eq_true rfl) hRl)⟩ rfl rfl hRc k3 (by decide) rfl rfl rfl (Nat.le_of_ble_eq_true rfl) dX3_clashesOf_55 ?_
        refine zr_if_eq (tgt := 70) C (by decide) dX3_clashesOf_58 (fun hc14 => ?_) (fun hc14 => ?_)
        · have h := zif_t hc14 h
          refine zr_iinc (v := v5 + 1) (lv' := [(5, .int (v5 + 1)), (6, .int (A (F v0 2) v5.toNatClampNeg)), (0, .ref v0), (1, .int v1), (2, .int v2), (3, .ref v3), (4, .int v4)]) C 6 rfl rfl (by decide) rfl dX3_clashesOf_70 ?_
          refine zr_goto (tgt := 6) C (by decide) dX3_clashesOf_73 ?_
          obtain rfl := zso h
          refine zr_lv (lv' := [(0, .ref v0), (1, .int v1), (2, .int v2), (3, .ref v3), (4, .int v4), (5, .int (v5 + 1))]) C [2, 3, 4, 5, 6, 0] rfl ?_
          exact hg _ rfl
        · have h := zif_f hc14 h
          refine zr_iload C 5 rfl dX3_clashesOf_61 ?_
          refine zr_iconst (v := 1) C (by decide) dX3_clashesOf_63 ?_
          refine zr_iload C 6 rfl dX3_clashesOf_64 ?_
          refine zr_ishl C dX3_clashesOf_66 ?_
          refine zr_ior C dX3_clashesOf_67 ?_
          refine zr_istore (lv' := [(4, .int (v4 ||| ((1 : Int32) <<< (v5 &&& 31)))), (6, .int (A (F v0 2) v5.toNatClampNeg)), (0, .ref v0), (1, .int v1), (2, .int v2), (3, .ref v3), (5, .int v5)]) C (by decide) rfl dX3_clashesOf_68 ?_
          refine zr_iinc (v := v5 + 1) (lv' := [(5, .int (v5 + 1)), (4, .int (v4 ||| ((1 : Int32) <<< (v5 &&& 31)))), (6, .int (A (F v0 2) v5.toNatClampNeg)), (0, .ref v0), (1, .int v1), (2, .int v2), (3, .ref v3)]) C 6 rfl rfl (by decide) rfl dX3_clashesOf_70 ?_
          refine zr_goto (tgt := 6) C (by decide) dX3_clashesOf_73 ?_
          obtain rfl := zso h
          refine zr_lv (lv' := [(0, .ref v0), (1, .int v1), (2, .int v2), (3, .ref v3), (4, .int (v4 ||| ((1 : Int32) <<< (v5 &&& 31)))), (5, .int (v5 + 1))]) C [3, 4, 5, 6, 1, 0] rfl ?_
          exact hg _ rfl
      · have h := zif_t hc6 h
        refine zr_iload_n C 2 rfl rfl dX3_clashesOf_31 ?_
        refine zr_goto (tgt := 42) C (by decide) dX3_clashesOf_32 ?_
        refine zr_istore (lv' := [(6, .int v2), (0, .ref v0), (1, .int v1), (2, .int v2), (3, .ref v3), (4, .int v4), (5, .int v5)]) C (by decide) rfl dX3_clashesOf_42 ?_
        refine zr_aload_n C 4 rfl rfl dX3_clashesOf_44 ?_
        refine zr_iload_n C 3 rfl rfl dX3_clashesOf_45 ?_
        refine zr_iload C 0 rfl dX3_clashesOf_46 ?_
        refine zr_aload_n C 1 rfl rfl dX3_clashesOf_48 ?_
        refine zr_iload_n C 2 rfl rfl dX3_clashesOf_49 ?_
        refine zr_iload C 6 rfl dX3_clashesOf_50 ?_
        obtain ⟨r15, h16, h⟩ := zb_e h
        refine zr_callVi (n := 2) (As := [.int v1, .int v5]) C (c_X3_isFar l D cy hZ v0 v1 v5 k0 I A h16) wd_350 wd_352 wp_9 wd_6 wd_353 (by decide +kernel) ⟨(Nat.le_trans (Nat.le_of_ble_eq_true rfl) hRf), (Nat.le_trans (Nat.le_of_ble_eq_true rfl) hRl)⟩ rfl rfl hRc k0 (by decide) rfl rfl rfl (Nat.le_of_ble_eq_true rfl) dX3_clashesOf_52 ?_
        obtain ⟨r18, h19, h⟩ := zb_e h
        refine zr_callVi (n := 3) (As := [.int v2, .int v2, .int r15]) C (c_X0_isClash l D cy hZ v3 v2 v2 r15 k3 I A h19) wd_354 wd_355 wd_356 wd_3 wd_357 (by decide +kernel) ⟨(Nat.le_trans (Nat.le_of_ble_eq_true rfl) hRf), (Nat.le_trans (Nat.le_of_ble_eq_true rfl) hRl)⟩ rfl rfl hRc k3 (by decide) rfl rfl rfl (Nat.le_of_ble_eq_true rfl) dX3_clashesOf_55 ?_
        refine zr_if_eq (tgt := 70) C (by decide) dX3_clashesOf_58 (fun hc21 => ?_) (fun hc21 => ?_)
        · have h := zif_t hc21 h
          refine zr_iinc (v := v5 + 1) (lv' := [(5, .int (v5 + 1)), (6, .int v2), (0, .ref v0), (1, .int v1), (2, .int v2), (3, .ref v3), (4, .int v4)]) C 6 rfl rfl (by decide) rfl dX3_clashesOf_70 ?_
          refine zr_goto (tgt := 6) C (by decide) dX3_clashesOf_73 ?_
          obtain rfl := zso h
          refine zr_lv (lv' := [(0, .ref v0), (1, .int v1), (2, .int v2), (3, .ref v3), (4, .int v4), (5, .int (v5 + 1))]) C [2, 3, 4, 5, 6, 0] rfl ?_
          exact hg _ rfl
        · have h := zif_f hc21 h
          refine zr_iload C 5 rfl dX3_clashesOf_61 ?_
          refine zr_iconst (v := 1) C (by decide) dX3_clashesOf_63 ?_
          refine zr_iload C 6 rfl dX3_clashesOf_64 ?_
          refine zr_ishl C dX3_clashesOf_66 ?_
          refine zr_ior C dX3_clashesOf_67 ?_
          refine zr_istore (lv' := [(4, .int (v4 ||| ((1 : Int32) <<< (v5 &&& 31)))), (6, .int v2), (0, .ref v0), (1, .int v1), (2, .int v2), (3, .ref v3), (5, .int v5)]) C (by decide) rfl dX3_clashesOf_68 ?_
          refine zr_iinc (v := v5 + 1) (lv' := [(5, .int (v5 + 1)), (4, .int (v4 ||| ((1 : Int32) <<< (v5 &&& 31)))), (6, .int v2), (0, .ref v0), (1, .int v1), (2, .int v2), (3, .ref v3)]) C 6 rfl rfl (by decide) rfl dX3_clashesOf_70 ?_
          refine zr_goto (tgt := 6) C (by decide) dX3_clashesOf_73 ?_
          obtain rfl := zso h
          refine zr_lv (lv' := [(0, .ref v0), (1, .int v1), (2, .int v2), (3, .ref v3), (4, .int (v4 ||| ((1 : Int32) <<< (v5 &&& 31)))), (5, .int (v5 + 1))]) C [3, 4, 5, 6, 1, 0] rfl ?_
          exact hg _ rfl
set_option maxHeartbeats 4000000 in
set_option maxRecDepth 100000 in
theorem w_X3_clashesOf_6 (l : Launch) (D : va_G) (cy : Nat → ClassId) {L : List Nat} {K N : Nat → Nat} {F G : Nat → Nat → Nat} (hZ : ZL L K N F G) {p : Program} {e : Env} {R : Room} {s : State} {m : MethodId} {args : Array Value} {below : List Frame} {meth : Method} {c : Code} {cells slots : Nat} {Q : State → Prop} (C : ZC p s m args meth c cX3_clashesOf yX3_clashesOf.cls 7 D cy L K N F G) (hRf : 1 ≤ R.frames) (hRl : 24 ≤ R.locals) (hRc : cells ≤ R.cells ∧ slots ≤ R.slots)  (v0 : Nat) (v1 : Int32) (v2 : Int32) (v3 : Nat) (k0 : K v0 = 3) (k3 : K v3 = 0) (I : zH) (A : zH) (n : Nat) (x : Int32 × Int32) (o : Int32 × Int32) (h : zIt (fun x => g_X3_clashesOf_6 F G v0 v1 v2 v3 x.1 x.2 I A) n x = some o)
    (hx : ZW p l e R s m args below meth c 7 D cy L K N F G cells slots Q I A 76 [(0, .ref v0), (1, .int v1), (2, .int v2), (3, .ref v3), (4, .int o.1), (5, .int o.2)] []) : ZW p l e R s m args below meth c 7 D cy L K N F G cells slots Q I A 6 [(0, .ref v0), (1, .int v1), (2, .int v2), (3, .ref v3), (4, .int x.1), (5, .int x.2)] [] := by
  induction n generalizing x with
  | zero => cases h
  | succ n ih =>
    unfold zIt at h
    cases hb : g_X3_clashesOf_6 F G v0 v1 v2 v3 x.1 x.2 I A with
    | none => rw [hb] at h; cases h
    | some q =>
      rw [hb] at h
      refine wb_X3_clashesOf_6 l D cy hZ C hRf hRl hRc v0 v1 v2 v3 k0 k3 I A x.1 x.2 q hb (fun y hy => ?_) (fun y hy => ?_)
      · subst hy; exact ih y h
      · subst hy; cases h; exact hx
set_option maxHeartbeats 4000000 in
set_option maxRecDepth 100000 in
theorem c_X3_clashesOf (l : Launch) (D : va_G) (cy : Nat → ClassId) {L : List Nat} {K N : Nat → Nat} {F G : Nat → Nat → Nat} (hZ : ZL L K N F G) (h0 : Nat) (p0 : Int32) (p1 : Int32) (r2 : Nat) (k_h0 : K h0 = 3) (k_r2 : K r2 = 0) (I A : zH) {r : Int32} (h : f_X3_clashesOf F G h0 p0 p1 r2 I A = some r) : ZMi l yX3_clashesOf cX3_clashesOf 7 (some .int) { frames := 1, cells := 0, slots := 0, locals := 24 } D cy L K N F G [.ref h0, .int p0, .int p1, .ref r2] I A r I A := by
  refine ZMi.of (nL := 7) hZ rfl rfl (by decide) (Nat.le_of_ble_eq_true rfl) (fun p e s m args below meth c C hr => ?_)
  unfold f_X3_clashesOf at h
  refine zr_lv (lv' := [(0, .ref h0), (1, .int p0), (2, .int p1), (3, .ref r2)]) C [0, 1, 2, 3] rfl ?_
  refine zr_iconst (v := 0) C (by decide) dX3_clashesOf_0 ?_
  refine zr_istore (lv' := [(4, .int 0), (0, .ref h0), (1, .int p0), (2, .int p1), (3, .ref r2)]) C (by decide) rfl dX3_clashesOf_1 ?_
  refine zr_iconst (v := 0) C (by decide) dX3_clashesOf_3 ?_
  refine zr_istore (lv' := [(5, .int 0), (4, .int 0), (0, .ref h0), (1, .int p0), (2, .int p1), (3, .ref r2)]) C (by decide) rfl dX3_clashesOf_4 ?_
  obtain ⟨i1, i2, h3, h⟩ := zb2_e h
  refine zr_lv (lv' := [(0, .ref h0), (1, .int p0), (2, .int p1), (3, .ref r2), (4, .int 0), (5, .int 0)]) C [2, 3, 4, 5, 1, 0] rfl ?_
  refine w_X3_clashesOf_6 l D cy hZ C (Nat.le_of_ble_eq_true rfl) (Nat.le_of_ble_eq_true rfl) ⟨Nat.le_of_ble_eq_true rfl, Nat.le_of_ble_eq_true rfl⟩ h0 p0 p1 r2 k_h0 k_r2 I A 2000 (0, 0) (i1, i2) h3 ?_
  refine zr_iload C 4 rfl dX3_clashesOf_76 ?_
  obtain rfl := zso h
  exact zr_iret C hr dX3_clashesOf_78

def g_X3_countClashes_4 (F G : Nat → Nat → Nat) (v0 : Nat) (v1 : Nat) (v2 : Int32) (v3 : Int32) (I : zH) (A : zH) : Option ((Int32 × Int32) ⊕ (Int32 × Int32)) :=
  if 10 ≤ v3 then (
    some (.inr (v2, v3))
  ) else (
    zb (f_X5_hasBit F G (I v0 4) v3 I A) fun r2 =>
    if r2 = 0 then (
      some (.inl (v2, v3 + 1))
    ) else (
      zck (¬ (v3 < 0 ∨ 10 ≤ v3.toNatClampNeg)) <|
      zb (f_X3_clashesOf F G v0 v3 (A (F v0 2) v3.toNatClampNeg) v1 I A) fun r7 =>
      zb (f_J6_bitCount_0f7a4 F G (r7 &&& (((2 : Int32) <<< (v3 &&& 31)) - 1)) I A) fun r10 =>
      some (.inl (v2 + r10, v3 + 1))
    )
  )
def f_X3_countClashes (F G : Nat → Nat → Nat) (h0 : Nat) (r0 : Nat) (I A : zH) : Option (Int32) :=
  zb2 (zIt (fun x => g_X3_countClashes_4 F G h0 r0 x.1 x.2 I A) 2000 (0, 0)) fun i1 i2 =>
  some i1
set_option maxHeartbeats 4000000 in
set_option maxRecDepth 100000 in
theorem wb_X3_countClashes_4 (l : Launch) (D : va_G) (cy : Nat → ClassId) {L : List Nat} {K N : Nat → Nat} {F G : Nat → Nat → Nat} (hZ : ZL L K N F G) {p : Program} {e : Env} {R : Room} {s : State} {m : MethodId} {args : Array Value} {below : List Frame} {meth : Method} {c : Code} {cells slots : Nat} {Q : State → Prop} (C : ZC p s m args meth c cX3_countClashes yX3_countClashes.cls 5 D cy L K N F G) (hRf : 2 ≤ R.frames) (hRl : 50 ≤ R.locals) (hRc : cells ≤ R.cells ∧ slots ≤ R.slots)  (v0 : Nat) (v1 : Nat) (k0 : K v0 = 3) (k1 : K v1 = 0) (I : zH) (A : zH) (v2 : Int32) (v3 : Int32) (o : (Int32 × Int32) ⊕ (Int32 × Int32)) (h : g_X3_countClashes_4 F G v0 v1 v2 v3 I A = some o)
    (hg : ∀ y : Int32 × Int32, o = .inl y → ZW p l e R s m args below meth c 5 D cy L K N F G cells slots Q I A 4 [(0, .ref v0), (1, .ref v1), (2, .int y.1), (3, .int y.2)] [])
    (hx : ∀ y : Int32 × Int32, o = .inr y → ZW p l e R s m args below meth c 5 D cy L K N F G cells slots Q I A 55 [(0, .ref v0), (1, .ref v1), (2, .int y.1), (3, .int y.2)] []) : ZW p l e R s m args below meth c 5 D cy L K N F G cells slots Q I A 4 [(0, .ref v0), (1, .ref v1), (2, .int v2), (3, .int v3)] [] := by
  unfold g_X3_countClashes_4 at h
  refine zr_iload_n C 3 rfl rfl dX3_countClashes_4 ?_
  refine zr_bipush (v := 10) C (by decide) dX3_countClashes_5 ?_
  refine zr_icmp_ge (tgt := 55) C (by decide) dX3_countClashes_7 (fun hc1 => ?_) (fun hc1 => ?_)
  · have h := zif_t hc1 h
    obtain rfl := zso h
    refine zr_lv (lv' := [(0, .ref v0), (1, .ref v1), (2, .int v2), (3, .int v3)]) C [0, 1, 2, 3] rfl ?_
    exact hx _ rfl
  · have h := zif_f hc1 h
    refine zr_aload_n C 0 rfl rfl dX3_countClashes_10 ?_
    refine zr_get (ci := 3) (k := 4) (v := .int (I v0 4)) C k0 (by decide) rfl zinX3 (by decide) wd_133 rfl dX3_countClashes_11 ?_
    refine zr_iload_n C 3 rfl rfl dX3_countClashes_14 ?_
    obtain ⟨r2, h3, h⟩ := zb_e h
    refine zr_callNi (n := 2) (As := [.int (I v0 4), .int v3]) C (c_X5_hasBit l D cy hZ (I v0 4) v3 I A h3) C.nb.2 wd_323 wd_1 wd_324 (by decide +kernel) ⟨(Nat.le_trans (Nat.le_of_ble_eq_true rfl) hRf), (Nat.le_trans (Nat.le_of_ble_eq_true rfl) hRl)⟩ rfl rfl hRc rfl rfl (Nat.le_of_ble_eq_true rfl) dX3_countClashes_15 ?_
    refine zr_if_eq (tgt := 49) C (by decide) dX3_countClashes_18 (fun hc5 => ?_) (fun hc5 => ?_)
    · have h := zif_t hc5 h
      refine zr_iinc (v := v3 + 1) (lv' := [(3, .int (v3 + 1)), (0, .ref v0), (1, .ref v1), (2, .int v2)]) C 3 rfl rfl (by decide) rfl dX3_countClashes_49 ?_
      refine zr_goto (tgt := 4) C (by decide) dX3_countClashes_52 ?_
      obtain rfl := zso h
      refine zr_lv (lv' := [(0, .ref v0), (1, .ref v1), (2, .int v2), (3, .int (v3 + 1))]) C [1, 2, 3, 0] rfl ?_
      exact hg _ rfl
    · have h := zif_f hc5 h
      refine zr_iconst (v := 2) C (by decide) dX3_countClashes_21 ?_
      refine zr_iload_n C 3 rfl rfl dX3_countClashes_22 ?_
      refine zr_ishl C dX3_countClashes_23 ?_
      refine zr_iconst (v := 1) C (by decide) dX3_countClashes_24 ?_
      refine zr_isub C dX3_countClashes_25 ?_
      refine zr_istore (lv' := [(4, .int (((2 : Int32) <<< (v3 &&& 31)) - 1)), (0, .ref v0), (1, .ref v1), (2, .int v2), (3, .int v3)]) C (by decide) rfl dX3_countClashes_26 ?_
      refine zr_iload_n C 3 rfl rfl dX3_countClashes_28 ?_
      refine zr_aload_n C 1 rfl rfl dX3_countClashes_29 ?_
      refine zr_iload_n C 4 rfl rfl dX3_countClashes_30 ?_
      refine zr_aload_n C 1 rfl rfl dX3_countClashes_31 ?_
      refine zr_get (ci := 3) (k := 2) (v := .ref (F v0 2)) C k0 (by decide) rfl zinX3 (by decide) wd_130 rfl dX3_countClashes_32 ?_
      refine zr_iload_n C 4 rfl rfl dX3_countClashes_35 ?_
      obtain ⟨hc6, h⟩ := zck_e h
      refine zr_iald C (zt3 hZ k0 2 (by decide)).1 (zt3 hZ k0 2 (by decide)).2 hc6 dX3_countClashes_36 ?_
      refine zr_aload_n C 2 rfl rfl dX3_countClashes_37 ?_
      obtain ⟨r7, h8, h⟩ := zb_e h
      refine zr_callVi (n := 3) (As := [.int v3, .int (A (F v0 2) v3.toNatClampNeg), .ref v1]) C (c_X3_clashesOf l D cy hZ v0 v3 (A (F v0 2) v3.toNatClampNeg) v1 k0 k1 I A h8) wd_346 wd_347 wd_348 wd_6 wd_349 (by decide +kernel) ⟨(Nat.le_trans (Nat.le_of_ble_eq_true rfl) hRf), (Nat.le_trans (Nat.le_of_ble_eq_true rfl) hRl)⟩ rfl rfl hRc k0 (by decide) rfl rfl rfl (Nat.le_of_ble_eq_true rfl) dX3_countClashes_38 ?_
      refine zr_iload C 0 rfl dX3_countClashes_41 ?_
      refine zr_iand C dX3_countClashes_43 ?_
      obtain ⟨r10, h11, h⟩ := zb_e h
      refine zr_callSi (n := 1) (As := [.int (r7 &&& (((2 : Int32) <<< (v3 &&& 31)) - 1))]) C (c_J6_bitCount_0f7a4 l D cy hZ (r7 &&& (((2 : Int32) <<< (v3 &&& 31)) - 1)) I A h11) wd_358 wd_359 wd_12 wd_360 (by decide +kernel) ⟨(Nat.le_trans (Nat.le_of_ble_eq_true rfl) hRf), (Nat.le_trans (Nat.le_of_ble_eq_true rfl) hRl)⟩ rfl rfl hRc rfl rfl (Nat.le_of_ble_eq_true rfl) dX3_countClashes_44 ?_
      refine zr_iadd C dX3_countClashes_47 ?_
      refine zr_istore_n (lv' := [(2, .int (v2 + r10)), (4, .int (((2 : Int32) <<< (v3 &&& 31)) - 1)), (0, .ref v0), (1, .ref v1), (3, .int v3)]) C rfl (by decide) rfl dX3_countClashes_48 ?_
      refine zr_iinc (v := v3 + 1) (lv' := [(3, .int (v3 + 1)), (2, .int (v2 + r10)), (4, .int (((2 : Int32) <<< (v3 &&& 31)) - 1)), (0, .ref v0), (1, .ref v1)]) C 4 rfl rfl (by decide) rfl dX3_countClashes_49 ?_
      refine zr_goto (tgt := 4) C (by decide) dX3_countClashes_52 ?_
      obtain rfl := zso h
      refine zr_lv (lv' := [(0, .ref v0), (1, .ref v1), (2, .int (v2 + r10)), (3, .int (v3 + 1))]) C [3, 4, 1, 0] rfl ?_
      exact hg _ rfl
set_option maxHeartbeats 4000000 in
set_option maxRecDepth 100000 in
theorem w_X3_countClashes_4 (l : Launch) (D : va_G) (cy : Nat → ClassId) {L : List Nat} {K N : Nat → Nat} {F G : Nat → Nat → Nat} (hZ : ZL L K N F G) {p : Program} {e : Env} {R : Room} {s : State} {m : MethodId} {args : Array Value} {below : List Frame} {meth : Method} {c : Code} {cells slots : Nat} {Q : State → Prop} (C : ZC p s m args meth c cX3_countClashes yX3_countClashes.cls 5 D cy L K N F G) (hRf : 2 ≤ R.frames) (hRl : 50 ≤ R.locals) (hRc : cells ≤ R.cells ∧ slots ≤ R.slots)  (v0 : Nat) (v1 : Nat) (k0 : K v0 = 3) (k1 : K v1 = 0) (I : zH) (A : zH) (n : Nat) (x : Int32 × Int32) (o : Int32 × Int32) (h : zIt (fun x => g_X3_countClashes_4 F G v0 v1 x.1 x.2 I A) n x = some o)
    (hx : ZW p l e R s m args below meth c 5 D cy L K N F G cells slots Q I A 55 [(0, .ref v0), (1, .ref v1), (2, .int o.1), (3, .int o.2)] []) : ZW p l e R s m args below meth c 5 D cy L K N F G cells slots Q I A 4 [(0, .ref v0), (1, .ref v1), (2, .int x.1), (3, .int x.2)] [] := by
  induction n generalizing x with
  | zero => cases h
  | succ n ih =>
    unfold zIt at h
    cases hb : g_X3_countClashes_4 F G v0 v1 x.1 x.2 I A with
    | none => rw [hb] at h; cases h
    | some q =>
      rw [hb] at h
      refine wb_X3_countClashes_4 l D cy hZ C hRf hRl hRc v0 v1 k0 k1 I A x.1 x.2 q hb (fun y hy => ?_) (fun y hy => ?_)
      · subst hy; exact ih y h
      · subst hy; cases h; exact hx
set_option maxHeartbeats 4000000 in
set_option maxRecDepth 100000 in
theorem c_X3_countClashes (l : Launch) (D : va_G) (cy : Nat → ClassId) {L : List Nat} {K N : Nat → Nat} {F G : Nat → Nat → Nat} (hZ : ZL L K N F G) (h0 : Nat) (r0 : Nat) (k_h0 : K h0 = 3) (k_r0 : K r0 = 0) (I A : zH) {r : Int32} (h : f_X3_countClashes F G h0 r0 I A = some r) : ZMi l yX3_countClashes cX3_countClashes 5 (some .int) { frames := 2, cells := 0, slots := 0, locals := 50 } D cy L K N F G [.ref h0, .ref r0] I A r I A := by
  refine ZMi.of (nL := 5) hZ rfl rfl (by decide) (Nat.le_of_ble_eq_true rfl) (fun p e s m args below meth c C hr => ?_)
  unfold f_X3_countClashes at h
  refine zr_lv (lv' := [(0, .ref h0), (1, .ref r0)]) C [0, 1] rfl ?_
  refine zr_iconst (v := 0) C (by decide) dX3_countClashes_0 ?_
  refine zr_istore_n (lv' := [(2, .int 0), (0, .ref h0), (1, .ref r0)]) C rfl (by decide) rfl dX3_countClashes_1 ?_
  refine zr_iconst (v := 0) C (by decide) dX3_countClashes_2 ?_
  refine zr_istore_n (lv' := [(3, .int 0), (2, .int 0), (0, .ref h0), (1, .ref r0)]) C rfl (by decide) rfl dX3_countClashes_3 ?_
  obtain ⟨i1, i2, h3, h⟩ := zb2_e h
  refine zr_lv (lv' := [(0, .ref h0), (1, .ref r0), (2, .int 0), (3, .int 0)]) C [2, 3, 1, 0] rfl ?_
  refine w_X3_countClashes_4 l D cy hZ C (Nat.le_of_ble_eq_true rfl) (Nat.le_of_ble_eq_true rfl) ⟨Nat.le_of_ble_eq_true rfl, Nat.le_of_ble_eq_true rfl⟩ h0 r0 k_h0 k_r0 I A 2000 (0, 0) (i1, i2) h3 ?_
  refine zr_iload_n C 2 rfl rfl dX3_countClashes_55 ?_
  obtain rfl := zso h
  exact zr_iret C hr dX3_countClashes_56

def g_X3_duties_4 (F G : Nat → Nat → Nat) (v0 : Nat) (v1 : Nat) (v2 : Int32) (v3 : Int32) (I : zH) (A : zH) : Option ((Int32 × Int32) ⊕ (Int32 × Int32)) :=
  if 10 ≤ v3 then (
    some (.inr (v2, v3))
  ) else (
    zb (f_X5_hasBit F G (I v0 4) v3 I A) fun r2 =>
    if r2 = 0 then (
      some (.inl (v2, v3 + 1))
    ) else (
      zck (¬ (v3 < 0 ∨ 10 ≤ v3.toNatClampNeg)) <|
      zb (f_X0_dutiesOf F G v1 (A (F v0 2) v3.toNatClampNeg) I A) fun r7 =>
      some (.inl (v2 ||| r7, v3 + 1))
    )
  )
def f_X3_duties (F G : Nat → Nat → Nat) (h0 : Nat) (r0 : Nat) (I A : zH) : Option (Int32) :=
  zb2 (zIt (fun x => g_X3_duties_4 F G h0 r0 x.1 x.2 I A) 2000 (0, 0)) fun i1 i2 =>
  some (i1 &&& ((I h0 5) ^^^ (-1)))
set_option maxHeartbeats 4000000 in
set_option maxRecDepth 100000 in
theorem wb_X3_duties_4 (l : Launch) (D : va_G) (cy : Nat → ClassId) {L : List Nat} {K N : Nat → Nat} {F G : Nat → Nat → Nat} (hZ : ZL L K N F G) {p : Program} {e : Env} {R : Room} {s : State} {m : MethodId} {args : Array Value} {below : List Frame} {meth : Method} {c : Code} {cells slots : Nat} {Q : State → Prop} (C : ZC p s m args meth c cX3_duties yX3_duties.cls 4 D cy L K N F G) (hRf : 1 ≤ R.frames) (hRl : 21 ≤ R.locals) (hRc : cells ≤ R.cells ∧ slots ≤ R.slots)  (v0 : Nat) (v1 : Nat) (k0 : K v0 = 3) (k1 : K v1 = 0) (I : zH) (A : zH) (v2 : Int32) (v3 : Int32) (o : (Int32 × Int32) ⊕ (Int32 × Int32)) (h : g_X3_duties_4 F G v0 v1 v2 v3 I A = some o)
    (hg : ∀ y : Int32 × Int32, o = .inl y → ZW p l e R s m args below meth c 4 D cy L K N F G cells slots Q I A 4 [(0, .ref v0), (1, .ref v1), (2, .int y.1), (3, .int y.2)] [])
    (hx : ∀ y : Int32 × Int32, o = .inr y → ZW p l e R s m args below meth c 4 D cy L K N F G cells slots Q I A 40 [(0, .ref v0), (1, .ref v1), (2, .int y.1), (3, .int y.2)] []) : ZW p l e R s m args below meth c 4 D cy L K N F G cells slots Q I A 4 [(0, .ref v0), (1, .ref v1), (2, .int v2), (3, .int v3)] [] := by
  unfold g_X3_duties_4 at h
  refine zr_iload_n C 3 rfl rfl dX3_duties_4 ?_
  refine zr_bipush (v := 10) C (by decide) dX3_duties_5 ?_
  refine zr_icmp_ge (tgt := 40) C (by decide) dX3_duties_7 (fun hc1 => ?_) (fun hc1 => ?_)
  · have h := zif_t hc1 h
    obtain rfl := zso h
    refine zr_lv (lv' := [(0, .ref v0), (1, .ref v1), (2, .int v2), (3, .int v3)]) C [0, 1, 2, 3] rfl ?_
    exact hx _ rfl
  · have h := zif_f hc1 h
    refine zr_aload_n C 0 rfl rfl dX3_duties_10 ?_
    refine zr_get (ci := 3) (k := 4) (v := .int (I v0 4)) C k0 (by decide) rfl zinX3 (by decide) wd_133 rfl dX3_duties_11 ?_
    refine zr_iload_n C 3 rfl rfl dX3_duties_14 ?_
    obtain ⟨r2, h3, h⟩ := zb_e h
    refine zr_callNi (n := 2) (As := [.int (I v0 4), .int v3]) C (c_X5_hasBit l D cy hZ (I v0 4) v3 I A h3) C.nb.2 wd_323 wd_1 wd_324 (by decide +kernel) ⟨(Nat.le_trans (Nat.le_of_ble_eq_true rfl) hRf), (Nat.le_trans (Nat.le_of_ble_eq_true rfl) hRl)⟩ rfl rfl hRc rfl rfl (Nat.le_of_ble_eq_true rfl) dX3_duties_15 ?_
    refine zr_if_eq (tgt := 34) C (by decide) dX3_duties_18 (fun hc5 => ?_) (fun hc5 => ?_)
    · have h := zif_t hc5 h
      refine zr_iinc (v := v3 + 1) (lv' := [(3, .int (v3 + 1)), (0, .ref v0), (1, .ref v1), (2, .int v2)]) C 3 rfl rfl (by decide) rfl dX3_duties_34 ?_
      refine zr_goto (tgt := 4) C (by decide) dX3_duties_37 ?_
      obtain rfl := zso h
      refine zr_lv (lv' := [(0, .ref v0), (1, .ref v1), (2, .int v2), (3, .int (v3 + 1))]) C [1, 2, 3, 0] rfl ?_
      exact hg _ rfl
    · have h := zif_f hc5 h
      refine zr_iload_n C 2 rfl rfl dX3_duties_21 ?_
      refine zr_aload_n C 1 rfl rfl dX3_duties_22 ?_
      refine zr_aload_n C 0 rfl rfl dX3_duties_23 ?_
      refine zr_get (ci := 3) (k := 2) (v := .ref (F v0 2)) C k0 (by decide) rfl zinX3 (by decide) wd_130 rfl dX3_duties_24 ?_
      refine zr_iload_n C 3 rfl rfl dX3_duties_27 ?_
      obtain ⟨hc6, h⟩ := zck_e h
      refine zr_iald C (zt3 hZ k0 2 (by decide)).1 (zt3 hZ k0 2 (by decide)).2 hc6 dX3_duties_28 ?_
      obtain ⟨r7, h8, h⟩ := zb_e h
      refine zr_callVi (n := 1) (As := [.int (A (F v0 2) v3.toNatClampNeg)]) C (c_X0_dutiesOf l D cy hZ v1 (A (F v0 2) v3.toNatClampNeg) k1 I A h8) wd_338 wd_339 wd_340 wd_3 wd_341 (by decide +kernel) ⟨(Nat.le_trans (Nat.le_of_ble_eq_true rfl) hRf), (Nat.le_trans (Nat.le_of_ble_eq_true rfl) hRl)⟩ rfl rfl hRc k1 (by decide) rfl rfl rfl (Nat.le_of_ble_eq_true rfl) dX3_duties_29 ?_
      refine zr_ior C dX3_duties_32 ?_
      refine zr_istore_n (lv' := [(2, .int (v2 ||| r7)), (0, .ref v0), (1, .ref v1), (3, .int v3)]) C rfl (by decide) rfl dX3_duties_33 ?_
      refine zr_iinc (v := v3 + 1) (lv' := [(3, .int (v3 + 1)), (2, .int (v2 ||| r7)), (0, .ref v0), (1, .ref v1)]) C 3 rfl rfl (by decide) rfl dX3_duties_34 ?_
      refine zr_goto (tgt := 4) C (by decide) dX3_duties_37 ?_
      obtain rfl := zso h
      refine zr_lv (lv' := [(0, .ref v0), (1, .ref v1), (2, .int (v2 ||| r7)), (3, .int (v3 + 1))]) C [2, 3, 1, 0] rfl ?_
      exact hg _ rfl
set_option maxHeartbeats 4000000 in
set_option maxRecDepth 100000 in
theorem w_X3_duties_4 (l : Launch) (D : va_G) (cy : Nat → ClassId) {L : List Nat} {K N : Nat → Nat} {F G : Nat → Nat → Nat} (hZ : ZL L K N F G) {p : Program} {e : Env} {R : Room} {s : State} {m : MethodId} {args : Array Value} {below : List Frame} {meth : Method} {c : Code} {cells slots : Nat} {Q : State → Prop} (C : ZC p s m args meth c cX3_duties yX3_duties.cls 4 D cy L K N F G) (hRf : 1 ≤ R.frames) (hRl : 21 ≤ R.locals) (hRc : cells ≤ R.cells ∧ slots ≤ R.slots)  (v0 : Nat) (v1 : Nat) (k0 : K v0 = 3) (k1 : K v1 = 0) (I : zH) (A : zH) (n : Nat) (x : Int32 × Int32) (o : Int32 × Int32) (h : zIt (fun x => g_X3_duties_4 F G v0 v1 x.1 x.2 I A) n x = some o)
    (hx : ZW p l e R s m args below meth c 4 D cy L K N F G cells slots Q I A 40 [(0, .ref v0), (1, .ref v1), (2, .int o.1), (3, .int o.2)] []) : ZW p l e R s m args below meth c 4 D cy L K N F G cells slots Q I A 4 [(0, .ref v0), (1, .ref v1), (2, .int x.1), (3, .int x.2)] [] := by
  induction n generalizing x with
  | zero => cases h
  | succ n ih =>
    unfold zIt at h
    cases hb : g_X3_duties_4 F G v0 v1 x.1 x.2 I A with
    | none => rw [hb] at h; cases h
    | some q =>
      rw [hb] at h
      refine wb_X3_duties_4 l D cy hZ C hRf hRl hRc v0 v1 k0 k1 I A x.1 x.2 q hb (fun y hy => ?_) (fun y hy => ?_)
      · subst hy; exact ih y h
      · subst hy; cases h; exact hx
set_option maxHeartbeats 4000000 in
set_option maxRecDepth 100000 in
theorem c_X3_duties (l : Launch) (D : va_G) (cy : Nat → ClassId) {L : List Nat} {K N : Nat → Nat} {F G : Nat → Nat → Nat} (hZ : ZL L K N F G) (h0 : Nat) (r0 : Nat) (k_h0 : K h0 = 3) (k_r0 : K r0 = 0) (I A : zH) {r : Int32} (h : f_X3_duties F G h0 r0 I A = some r) : ZMi l yX3_duties cX3_duties 4 (some .int) { frames := 1, cells := 0, slots := 0, locals := 21 } D cy L K N F G [.ref h0, .ref r0] I A r I A := by
  refine ZMi.of (nL := 4) hZ rfl rfl (by decide) (Nat.le_of_ble_eq_true rfl) (fun p e s m args below meth c C hr => ?_)
  unfold f_X3_duties at h
  refine zr_lv (lv' := [(0, .ref h0), (1, .ref r0)]) C [0, 1] rfl ?_
  refine zr_iconst (v := 0) C (by decide) dX3_duties_0 ?_
  refine zr_istore_n (lv' := [(2, .int 0), (0, .ref h0), (1, .ref r0)]) C rfl (by decide) rfl dX3_duties_1 ?_
  refine zr_iconst (v := 0) C (by decide) dX3_duties_2 ?_
  refine zr_istore_n (lv' := [(3, .int 0), (2, .int 0), (0, .ref h0), (1, .ref r0)]) C rfl (by decide) rfl dX3_duties_3 ?_
  obtain ⟨i1, i2, h3, h⟩ := zb2_e h
  refine zr_lv (lv' := [(0, .ref h0), (1, .ref r0), (2, .int 0), (3, .int 0)]) C [2, 3, 1, 0] rfl ?_
  refine w_X3_duties_4 l D cy hZ C (Nat.le_of_ble_eq_true rfl) (Nat.le_of_ble_eq_true rfl) ⟨Nat.le_of_ble_eq_true rfl, Nat.le_of_ble_eq_true rfl⟩ h0 r0 k_h0 k_r0 I A 2000 (0, 0) (i1, i2) h3 ?_
  refine zr_iload_n C 2 rfl rfl dX3_duties_40 ?_
  refine zr_aload_n C 0 rfl rfl dX3_duties_41 ?_
  refine zr_get (ci := 3) (k := 5) (v := .int (I h0 5)) C k_h0 (by decide) rfl zinX3 (by decide) wd_135 rfl dX3_duties_42 ?_
  refine zr_iconst (v := (-1)) C (by decide) dX3_duties_45 ?_
  refine zr_ixor C dX3_duties_46 ?_
  refine zr_iand C dX3_duties_47 ?_
  obtain rfl := zso h
  exact zr_iret C hr dX3_duties_48

def g_X3_takeClashes_4 (F G : Nat → Nat → Nat) (v0 : Nat) (v1 : Nat) (v2 : Int32) (v3 : Int32) (A : zH) (I : zH) : Option ((Int32 × Int32 × zH) ⊕ (Int32 × Int32 × zH)) :=
  if 10 ≤ v3 then (
    some (.inr (v2, v3, A))
  ) else (
    zb (f_X5_hasBit F G (I v0 4) v3 I A) fun r2 =>
    if r2 = 0 then (
      zck (¬ (v3 < 0 ∨ 10 ≤ v3.toNatClampNeg)) <|
      zlet (up2 A (F v0 3) v3.toNatClampNeg 0) fun A7 =>
      zck (¬ (v3 < 0 ∨ 10 ≤ v3.toNatClampNeg)) <|
      some (.inl (v2 ||| (A7 (F v0 3) v3.toNatClampNeg), v3 + 1, A7))
    ) else (
      zck (¬ (v3 < 0 ∨ 10 ≤ v3.toNatClampNeg)) <|
      zb (f_X3_clashesOf F G v0 v3 (A (F v0 2) v3.toNatClampNeg) v1 I A) fun r10 =>
      zck (¬ (v3 < 0 ∨ 10 ≤ v3.toNatClampNeg)) <|
      zlet (up2 A (F v0 3) v3.toNatClampNeg r10) fun A14 =>
      zck (¬ (v3 < 0 ∨ 10 ≤ v3.toNatClampNeg)) <|
      some (.inl (v2 ||| (A14 (F v0 3) v3.toNatClampNeg), v3 + 1, A14))
    )
  )
def f_X3_takeClashes (F G : Nat → Nat → Nat) (h0 : Nat) (r0 : Nat) (I A : zH) : Option (Int32 × zH) :=
  zb3 (zIt (fun x => g_X3_takeClashes_4 F G h0 r0 x.1 x.2.1 x.2.2 I ) 2000 (0, 0, A)) fun i1 i2 A3 =>
  some (i1, A3)
set_option maxHeartbeats 4000000 in
set_option maxRecDepth 100000 in
theorem wb_X3_takeClashes_4 (l : Launch) (D : va_G) (cy : Nat → ClassId) {L : List Nat} {K N : Nat → Nat} {F G : Nat → Nat → Nat} (hZ : ZL L K N F G) {p : Program} {e : Env} {R : Room} {s : State} {m : MethodId} {args : Array Value} {below : List Frame} {meth : Method} {c : Code} {cells slots : Nat} {Q : State → Prop} (C : ZC p s m args meth c cX3_takeClashes yX3_takeClashes.cls 4 D cy L K N F G) (hRf : 2 ≤ R.frames) (hRl : 50 ≤ R.locals) (hRc : cells ≤ R.cells ∧ slots ≤ R.slots)  (v0 : Nat) (v1 : Nat) (k0 : K v0 = 3) (k1 : K v1 = 0) (I : zH) (v2 : Int32) (v3 : Int32) (A : zH) (o : (Int32 × Int32 × zH) ⊕ (Int32 × Int32 × zH)) (h : g_X3_takeClashes_4 F G v0 v1 v2 v3 A I = some o)
    (hg : ∀ y : Int32 × Int32 × zH, o = .inl y → ZW p l e R s m args below meth c 4 D cy L K N F G cells slots Q I y.2.2 4 [(0, .ref v0), (1, .ref v1), (2, .int y.1), (3, .int y.2.1)] [])
    (hx : ∀ y : Int32 × Int32 × zH, o = .inr y → ZW p l e R s m args below meth c 4 D cy L K N F G cells slots Q I y.2.2 58 [(0, .ref v0), (1, .ref v1), (2, .int y.1), (3, .int y.2.1)] []) : ZW p l e R s m args below meth c 4 D cy L K N F G cells slots Q I A 4 [(0, .ref v0), (1, .ref v1), (2, .int v2), (3, .int v3)] [] := by
  unfold g_X3_takeClashes_4 at h
  refine zr_iload_n C 3 rfl rfl dX3_takeClashes_4 ?_
  refine zr_bipush (v := 10) C (by decide) dX3_takeClashes_5 ?_
  refine zr_icmp_ge (tgt := 58) C (by decide) dX3_takeClashes_7 (fun hc1 => ?_) (fun hc1 => ?_)
  · have h := zif_t hc1 h
    obtain rfl := zso h
    refine zr_lv (lv' := [(0, .ref v0), (1, .ref v1), (2, .int v2), (3, .int v3)]) C [0, 1, 2, 3] rfl ?_
    exact hx _ rfl
  · have h := zif_f hc1 h
    refine zr_aload_n C 0 rfl rfl dX3_takeClashes_10 ?_
    refine zr_get (ci := 3) (k := 3) (v := .ref (F v0 3)) C k0 (by decide) rfl zinX3 (by decide) wd_132 rfl dX3_takeClashes_11 ?_
    refine zr_iload_n C 3 rfl rfl dX3_takeClashes_14 ?_
    refine zr_aload_n C 0 rfl rfl dX3_takeClashes_15 ?_
    refine zr_get (ci := 3) (k := 4) (v := .int (I v0 4)) C k0 (by decide) rfl zinX3 (by decide) wd_133 rfl dX3_takeClashes_16 ?_
    refine zr_iload_n C 3 rfl rfl dX3_takeClashes_19 ?_
    obtain ⟨r2, h3, h⟩ := zb_e h
    refine zr_callNi (n := 2) (As := [.int (I v0 4), .int v3]) C (c_X5_hasBit l D cy hZ (I v0 4) v3 I A h3) C.nb.2 wd_323 wd_1 wd_324 (by decide +kernel) ⟨(Nat.le_trans (Nat.le_of_ble_eq_true rfl) hRf), (Nat.le_trans (Nat.le_of_ble_eq_true rfl) hRl)⟩ rfl rfl hRc rfl rfl (Nat.le_of_ble_eq_true rfl) dX3_takeClashes_20 ?_
    refine zr_if_eq (tgt := 41) C (by decide) dX3_takeClashes_23 (fun hc5 => ?_) (fun hc5 => ?_)
    · have h := zif_t hc5 h
      refine zr_iconst (v := 0) C (by decide) dX3_takeClashes_41 ?_
      obtain ⟨hc6, h⟩ := zck_e h
      refine zr_iast C (zt3 hZ k0 3 (by decide)).1 (zt3 hZ k0 3 (by decide)).2 hc6 dX3_takeClashes_42 ?_
      obtain ⟨A7, eA7, h⟩ := zlet_e h
      rw [← eA7]
      refine zr_iload_n C 2 rfl rfl dX3_takeClashes_43 ?_
      refine zr_aload_n C 0 rfl rfl dX3_takeClashes_44 ?_
      refine zr_get (ci := 3) (k := 3) (v := .ref (F v0 3)) C k0 (by decide) rfl zinX3 (by decide) wd_132 rfl dX3_takeClashes_45 ?_
      refine zr_iload_n C 3 rfl rfl dX3_takeClashes_48 ?_
      obtain ⟨hc8, h⟩ := zck_e h
      refine zr_iald C (zt3 hZ k0 3 (by decide)).1 (zt3 hZ k0 3 (by decide)).2 hc8 dX3_takeClashes_49 ?_
      refine zr_ior C dX3_takeClashes_50 ?_
      refine zr_istore_n (lv' := [(2, .int (v2 ||| (A7 (F v0 3) v3.toNatClampNeg))), (0, .ref v0), (1, .ref v1), (3, .int v3)]) C rfl (by decide) rfl dX3_takeClashes_51 ?_
      refine zr_iinc (v := v3 + 1) (lv' := [(3, .int (v3 + 1)), (2, .int (v2 ||| (A7 (F v0 3) v3.toNatClampNeg))), (0, .ref v0), (1, .ref v1)]) C 3 rfl rfl (by decide) rfl dX3_takeClashes_52 ?_
      refine zr_goto (tgt := 4) C (by decide) dX3_takeClashes_55 ?_
      obtain rfl := zso h
      refine zr_lv (lv' := [(0, .ref v0), (1, .ref v1), (2, .int (v2 ||| (A7 (F v0 3) v3.toNatClampNeg))), (3, .int (v3 + 1))]) C [2, 3, 1, 0] rfl ?_
      exact hg _ rfl
    · have h := zif_f hc5 h
      refine zr_aload_n C 0 rfl rfl dX3_takeClashes_26 ?_
      refine zr_iload_n C 3 rfl rfl dX3_takeClashes_27 ?_
      refine zr_aload_n C 0 rfl rfl dX3_takeClashes_28 ?_
      refine zr_get (ci := 3) (k := 2) (v := .ref (F v0 2)) C k0 (by decide) rfl zinX3 (by decide) wd_130 rfl dX3_takeClashes_29 ?_
      refine zr_iload_n C 3 rfl rfl dX3_takeClashes_32 ?_
      obtain ⟨hc9, h⟩ := zck_e h
      refine zr_iald C (zt3 hZ k0 2 (by decide)).1 (zt3 hZ k0 2 (by decide)).2 hc9 dX3_takeClashes_33 ?_
      refine zr_aload_n C 1 rfl rfl dX3_takeClashes_34 ?_
      obtain ⟨r10, h11, h⟩ := zb_e h
      refine zr_callVi (n := 3) (As := [.int v3, .int (A (F v0 2) v3.toNatClampNeg), .ref v1]) C (c_X3_clashesOf l D cy hZ v0 v3 (A (F v0 2) v3.toNatClampNeg) v1 k0 k1 I A h11) wd_346 wd_347 wd_348 wd_6 wd_349 (by decide +kernel) ⟨(Nat.le_trans (Nat.le_of_ble_eq_true rfl) hRf), (Nat.le_trans (Nat.le_of_ble_eq_true rfl) hRl)⟩ rfl rfl hRc k0 (by decide) rfl rfl rfl (Nat.le_of_ble_eq_true rfl) dX3_takeClashes_35 ?_
      refine zr_goto (tgt := 42) C (by decide) dX3_takeClashes_38 ?_
      obtain ⟨hc13, h⟩ := zck_e h
      refine zr_iast C (zt3 hZ k0 3 (by decide)).1 (zt3 hZ k0 3 (by decide)).2 hc13 dX3_takeClashes_42 ?_
      obtain ⟨A14, eA14, h⟩ := zlet_e h
      rw [← eA14]
      refine zr_iload_n C 2 rfl rfl dX3_takeClashes_43 ?_
      refine zr_aload_n C 0 rfl rfl dX3_takeClashes_44 ?_
      refine zr_get (ci := 3) (k := 3) (v := .ref (F v0 3)) C k0 (by decide) rfl zinX3 (by decide) wd_132 rfl dX3_takeClashes_45 ?_
      refine zr_iload_n C 3 rfl rfl dX3_takeClashes_48 ?_
      obtain ⟨hc15, h⟩ := zck_e h
      refine zr_iald C (zt3 hZ k0 3 (by decide)).1 (zt3 hZ k0 3 (by decide)).2 hc15 dX3_takeClashes_49 ?_
      refine zr_ior C dX3_takeClashes_50 ?_
      refine zr_istore_n (lv' := [(2, .int (v2 ||| (A14 (F v0 3) v3.toNatClampNeg))), (0, .ref v0), (1, .ref v1), (3, .int v3)]) C rfl (by decide) rfl dX3_takeClashes_51 ?_
      refine zr_iinc (v := v3 + 1) (lv' := [(3, .int (v3 + 1)), (2, .int (v2 ||| (A14 (F v0 3) v3.toNatClampNeg))), (0, .ref v0), (1, .ref v1)]) C 3 rfl rfl (by decide) rfl dX3_takeClashes_52 ?_
      refine zr_goto (tgt := 4) C (by decide) dX3_takeClashes_55 ?_
      obtain rfl := zso h
      refine zr_lv (lv' := [(0, .ref v0), (1, .ref v1), (2, .int (v2 ||| (A14 (F v0 3) v3.toNatClampNeg))), (3, .int (v3 + 1))]) C [2, 3, 1, 0] rfl ?_
      exact hg _ rfl
set_option maxHeartbeats 4000000 in
set_option maxRecDepth 100000 in
theorem w_X3_takeClashes_4 (l : Launch) (D : va_G) (cy : Nat → ClassId) {L : List Nat} {K N : Nat → Nat} {F G : Nat → Nat → Nat} (hZ : ZL L K N F G) {p : Program} {e : Env} {R : Room} {s : State} {m : MethodId} {args : Array Value} {below : List Frame} {meth : Method} {c : Code} {cells slots : Nat} {Q : State → Prop} (C : ZC p s m args meth c cX3_takeClashes yX3_takeClashes.cls 4 D cy L K N F G) (hRf : 2 ≤ R.frames) (hRl : 50 ≤ R.locals) (hRc : cells ≤ R.cells ∧ slots ≤ R.slots)  (v0 : Nat) (v1 : Nat) (k0 : K v0 = 3) (k1 : K v1 = 0) (I : zH) (n : Nat) (x : Int32 × Int32 × zH) (o : Int32 × Int32 × zH) (h : zIt (fun x => g_X3_takeClashes_4 F G v0 v1 x.1 x.2.1 x.2.2 I) n x = some o)
    (hx : ZW p l e R s m args below meth c 4 D cy L K N F G cells slots Q I o.2.2 58 [(0, .ref v0), (1, .ref v1), (2, .int o.1), (3, .int o.2.1)] []) : ZW p l e R s m args below meth c 4 D cy L K N F G cells slots Q I x.2.2 4 [(0, .ref v0), (1, .ref v1), (2, .int x.1), (3, .int x.2.1)] [] := by
  induction n generalizing x with
  | zero => cases h
  | succ n ih =>
    unfold zIt at h
    cases hb : g_X3_takeClashes_4 F G v0 v1 x.1 x.2.1 x.2.2 I with
    | none => rw [hb] at h; cases h
    | some q =>
      rw [hb] at h
      refine wb_X3_takeClashes_4 l D cy hZ C hRf hRl hRc v0 v1 k0 k1 I x.1 x.2.1 x.2.2 q hb (fun y hy => ?_) (fun y hy => ?_)
      · subst hy; exact ih y h
      · subst hy; cases h; exact hx
set_option maxHeartbeats 4000000 in
set_option maxRecDepth 100000 in
theorem c_X3_takeClashes (l : Launch) (D : va_G) (cy : Nat → ClassId) {L : List Nat} {K N : Nat → Nat} {F G : Nat → Nat → Nat} (hZ : ZL L K N F G) (h0 : Nat) (r0 : Nat) (k_h0 : K h0 = 3) (k_r0 : K r0 = 0) (I A : zH) {r : Int32} {B' : zH} (h : f_X3_takeClashes F G h0 r0 I A = some (r, B')) : ZMi l yX3_takeClashes cX3_takeClashes 4 (some .int) { frames := 2, cells := 0, slots := 0, locals := 50 } D cy L K N F G [.ref h0, .ref r0] I A r I B' := by
  refine ZMi.of (nL := 4) hZ rfl rfl (by decide) (Nat.le_of_ble_eq_true rfl) (fun p e s m args below meth c C hr => ?_)
  unfold f_X3_takeClashes at h
  refine zr_lv (lv' := [(0, .ref h0), (1, .ref r0)]) C [0, 1] rfl ?_
  refine zr_iconst (v := 0) C (by decide) dX3_takeClashes_0 ?_
  refine zr_istore_n (lv' := [(2, .int 0), (0, .ref h0), (1, .ref r0)]) C rfl (by decide) rfl dX3_takeClashes_1 ?_
  refine zr_iconst (v := 0) C (by decide) dX3_takeClashes_2 ?_
  refine zr_istore_n (lv' := [(3, .int 0), (2, .int 0), (0, .ref h0), (1, .ref r0)]) C rfl (by decide) rfl dX3_takeClashes_3 ?_
  obtain ⟨i1, i2, A3, h4, h⟩ := zb3_e h
  refine zr_lv (lv' := [(0, .ref h0), (1, .ref r0), (2, .int 0), (3, .int 0)]) C [2, 3, 1, 0] rfl ?_
  refine w_X3_takeClashes_4 l D cy hZ C (Nat.le_of_ble_eq_true rfl) (Nat.le_of_ble_eq_true rfl) ⟨Nat.le_of_ble_eq_true rfl, Nat.le_of_ble_eq_true rfl⟩ h0 r0 k_h0 k_r0 I  2000 (0, 0, A) (i1, i2, A3) h4 ?_
  refine zr_iload_n C 2 rfl rfl dX3_takeClashes_58 ?_
  cases zso h
  exact zr_iret C hr dX3_takeClashes_59

def g_X3_leavesNone_2 (F G : Nat → Nat → Nat) (v0 : Nat) (v1 : Int32) (v2 : Int32) (I : zH) (A : zH) : Option ((Int32) ⊕ ((Int32) ⊕ (Int32))) :=
  if 10 ≤ v2 then (
    some (.inr (.inl v2))
  ) else (
    zb (f_X5_hasBit F G v1 v2 I A) fun r2 =>
    if r2 = 0 then (
      zck (¬ (v2 < 0 ∨ 10 ≤ v2.toNatClampNeg)) <|
      if ((A (F v0 3) v2.toNatClampNeg) &&& (v1 ^^^ (-1))) = 0 then (
        some (.inl (v2 + 1))
      ) else (
        some (.inr (.inr 0))
      )
    ) else (
      some (.inl (v2 + 1))
    )
  )
def f_X3_leavesNone (F G : Nat → Nat → Nat) (h0 : Nat) (p0 : Int32) (I A : zH) : Option (Int32) :=
  zs (fun q => q) (zIt (fun x => g_X3_leavesNone_2 F G h0 p0 x I A) 2000 0) fun x3 =>
   some 1
set_option maxHeartbeats 4000000 in
set_option maxRecDepth 100000 in
theorem wb_X3_leavesNone_2 (l : Launch) (D : va_G) (cy : Nat → ClassId) {L : List Nat} {K N : Nat → Nat} {F G : Nat → Nat → Nat} (hZ : ZL L K N F G) {p : Program} {e : Env} {R : Room} {s : State} {m : MethodId} {args : Array Value} {below : List Frame} {meth : Method} {c : Code} {cells slots : Nat} {r : Int32} (C : ZC p s m args meth c cX3_leavesNone yX3_leavesNone.cls 3 D cy L K N F G) (hRf : 1 ≤ R.frames) (hRl : 21 ≤ R.locals) (hRc : cells ≤ R.cells ∧ slots ≤ R.slots) (hr : meth.sig.returnType = (some .boolean)) (v0 : Nat) (v1 : Int32) (k0 : K v0 = 3) (I : zH) (A : zH) (v2 : Int32) (o : (Int32) ⊕ ((Int32) ⊕ (Int32))) (h : g_X3_leavesNone_2 F G v0 v1 v2 I A = some o)
    (hg : ∀ y : Int32, o = .inl y → ZW p l e R s m args below meth c 3 D cy L K N F G cells slots (MQ below (va_Qi (fun x (_ : Unit) => x = r) (fun _ t => zPost D cy L K N F G I A t) (zA L s.heap.size)) args s cells slots (zA L s.heap.size)) I A 2 [(0, .ref v0), (1, .int v1), (2, .int y)] [])
    (hx : ∀ y : Int32, o = .inr (.inl y) → ZW p l e R s m args below meth c 3 D cy L K N F G cells slots (MQ below (va_Qi (fun x (_ : Unit) => x = r) (fun _ t => zPost D cy L K N F G I A t) (zA L s.heap.size)) args s cells slots (zA L s.heap.size)) I A 37 [(0, .ref v0), (1, .int v1), (2, .int y)] [])
    (hX : ∀ y : Int32, o = .inr (.inr y) → y = r) : ZW p l e R s m args below meth c 3 D cy L K N F G cells slots (MQ below (va_Qi (fun x (_ : Unit) => x = r) (fun _ t => zPost D cy L K N F G I A t) (zA L s.heap.size)) args s cells slots (zA L s.heap.size)) I A 2 [(0, .ref v0), (1, .int v1), (2, .int v2)] [] := by
  unfold g_X3_leavesNone_2 at h
  refine zr_iload_n C 2 rfl rfl dX3_leavesNone_2 ?_
  refine zr_bipush (v := 10) C (by decide) dX3_leavesNone_3 ?_
  refine zr_icmp_ge (tgt := 37) C (by decide) dX3_leavesNone_5 (fun hc1 => ?_) (fun hc1 => ?_)
  · have h := zif_t hc1 h
    obtain rfl := zso h
    refine zr_lv (lv' := [(0, .ref v0), (1, .int v1), (2, .int v2)]) C [0, 1, 2] rfl ?_
    exact hx _ rfl
  · have h := zif_f hc1 h
    refine zr_iload_n C 1 rfl rfl dX3_leavesNone_8 ?_
    refine zr_iload_n C 2 rfl rfl dX3_leavesNone_9 ?_
    obtain ⟨r2, h3, h⟩ := zb_e h
    refine zr_callNi (n := 2) (As := [.int v1, .int v2]) C (c_X5_hasBit l D cy hZ v1 v2 I A h3) C.nb.2 wd_323 wd_1 wd_324 (by decide +kernel) ⟨(Nat.le_trans (Nat.le_of_ble_eq_true rfl) hRf), (Nat.le_trans (Nat.le_of_ble_eq_true rfl) hRl)⟩ rfl rfl hRc rfl rfl (Nat.le_of_ble_eq_true rfl) dX3_leavesNone_10 ?_
    refine zr_if_ne (tgt := 31) C (by decide) dX3_leavesNone_13 (fun hc5 => ?_) (fun hc5 => ?_)
    · have h := zif_f hc5 h
      refine zr_iinc (v := v2 + 1) (lv' := [(2, .int (v2 + 1)), (0, .ref v0), (1, .int v1)]) C 2 rfl rfl (by decide) rfl dX3_leavesNone_31 ?_
      refine zr_goto (tgt := 2) C (by decide) dX3_leavesNone_34 ?_
      obtain rfl := zso h
      refine zr_lv (lv' := [(0, .ref v0), (1, .int v1), (2, .int (v2 + 1))]) C [1, 2, 0] rfl ?_
      exact hg _ rfl
    · have h := zif_t hc5 h
      refine zr_aload_n C 0 rfl rfl dX3_leavesNone_16 ?_
      refine zr_get (ci := 3) (k := 3) (v := .ref (F v0 3)) C k0 (by decide) rfl zinX3 (by decide) wd_132 rfl dX3_leavesNone_17 ?_
      refine zr_iload_n C 2 rfl rfl dX3_leavesNone_20 ?_
      obtain ⟨hc6, h⟩ := zck_e h
      refine zr_iald C (zt3 hZ k0 3 (by decide)).1 (zt3 hZ k0 3 (by decide)).2 hc6 dX3_leavesNone_21 ?_
      refine zr_iload_n C 1 rfl rfl dX3_leavesNone_22 ?_
      refine zr_iconst (v := (-1)) C (by decide) dX3_leavesNone_23 ?_
      refine zr_ixor C dX3_leavesNone_24 ?_
      refine zr_iand C dX3_leavesNone_25 ?_
      refine zr_if_eq (tgt := 31) C (by decide) dX3_leavesNone_26 (fun hc7 => ?_) (fun hc7 => ?_)
      · have h := zif_t hc7 h
        refine zr_iinc (v := v2 + 1) (lv' := [(2, .int (v2 + 1)), (0, .ref v0), (1, .int v1)]) C 2 rfl rfl (by decide) rfl dX3_leavesNone_31 ?_
        refine zr_goto (tgt := 2) C (by decide) dX3_leavesNone_34 ?_
        obtain rfl := zso h
        refine zr_lv (lv' := [(0, .ref v0), (1, .int v1), (2, .int (v2 + 1))]) C [1, 2, 0] rfl ?_
        exact hg _ rfl
      · have h := zif_f hc7 h
        refine zr_iconst (v := 0) C (by decide) dX3_leavesNone_29 ?_
        obtain rfl := zso h
        obtain rfl := hX _ rfl
        exact zr_zret C hr rfl dX3_leavesNone_30
set_option maxHeartbeats 4000000 in
set_option maxRecDepth 100000 in
theorem w_X3_leavesNone_2 (l : Launch) (D : va_G) (cy : Nat → ClassId) {L : List Nat} {K N : Nat → Nat} {F G : Nat → Nat → Nat} (hZ : ZL L K N F G) {p : Program} {e : Env} {R : Room} {s : State} {m : MethodId} {args : Array Value} {below : List Frame} {meth : Method} {c : Code} {cells slots : Nat} {r : Int32} (C : ZC p s m args meth c cX3_leavesNone yX3_leavesNone.cls 3 D cy L K N F G) (hRf : 1 ≤ R.frames) (hRl : 21 ≤ R.locals) (hRc : cells ≤ R.cells ∧ slots ≤ R.slots) (hr : meth.sig.returnType = (some .boolean)) (v0 : Nat) (v1 : Int32) (k0 : K v0 = 3) (I : zH) (A : zH) (n : Nat) (x : Int32) (o : (Int32) ⊕ (Int32)) (h : zIt (fun x => g_X3_leavesNone_2 F G v0 v1 x I A) n x = some o)
    (hx : ∀ y : Int32, o = .inl y → ZW p l e R s m args below meth c 3 D cy L K N F G cells slots (MQ below (va_Qi (fun x (_ : Unit) => x = r) (fun _ t => zPost D cy L K N F G I A t) (zA L s.heap.size)) args s cells slots (zA L s.heap.size)) I A 37 [(0, .ref v0), (1, .int v1), (2, .int y)] []) (hX : ∀ y : Int32, o = .inr y → y = r) : ZW p l e R s m args below meth c 3 D cy L K N F G cells slots (MQ below (va_Qi (fun x (_ : Unit) => x = r) (fun _ t => zPost D cy L K N F G I A t) (zA L s.heap.size)) args s cells slots (zA L s.heap.size)) I A 2 [(0, .ref v0), (1, .int v1), (2, .int x)] [] := by
  induction n generalizing x with
  | zero => cases h
  | succ n ih =>
    unfold zIt at h
    cases hb : g_X3_leavesNone_2 F G v0 v1 x I A with
    | none => rw [hb] at h; cases h
    | some q =>
      rw [hb] at h
      refine wb_X3_leavesNone_2 l D cy hZ C hRf hRl hRc hr v0 v1 k0 I A x q hb (fun y hy => ?_) (fun y hy => ?_) (fun y hy => ?_)
      · subst hy; exact ih y h
      · subst hy; cases h; exact hx y rfl
      · subst hy; cases h; exact hX y rfl
set_option maxHeartbeats 4000000 in
set_option maxRecDepth 100000 in
theorem c_X3_leavesNone (l : Launch) (D : va_G) (cy : Nat → ClassId) {L : List Nat} {K N : Nat → Nat} {F G : Nat → Nat → Nat} (hZ : ZL L K N F G) (h0 : Nat) (p0 : Int32) (k_h0 : K h0 = 3) (I A : zH) {r : Int32} (h : f_X3_leavesNone F G h0 p0 I A = some r) : ZMi l yX3_leavesNone cX3_leavesNone 3 (some .boolean) { frames := 1, cells := 0, slots := 0, locals := 21 } D cy L K N F G [.ref h0, .int p0] I A r I A := by
  refine ZMi.of (nL := 3) hZ rfl rfl (by decide) (Nat.le_of_ble_eq_true rfl) (fun p e s m args below meth c C hr => ?_)
  unfold f_X3_leavesNone at h
  refine zr_lv (lv' := [(0, .ref h0), (1, .int p0)]) C [0, 1] rfl ?_
  refine zr_iconst (v := 0) C (by decide) dX3_leavesNone_0 ?_
  refine zr_istore_n (lv' := [(2, .int 0), (0, .ref h0), (1, .int p0)]) C rfl (by decide) rfl dX3_leavesNone_1 ?_
  refine zr_lv (lv' := [(0, .ref h0), (1, .int p0), (2, .int 0)]) C [1, 2, 0] rfl ?_
  obtain ⟨x3, h2, h⟩ | ⟨x3, h2, h⟩ := zs_e h
  · refine w_X3_leavesNone_2 l D cy hZ C (Nat.le_of_ble_eq_true rfl) (Nat.le_of_ble_eq_true rfl) ⟨Nat.le_of_ble_eq_true rfl, Nat.le_of_ble_eq_true rfl⟩ hr h0 p0 k_h0 I A 2000 0 (.inl x3) h2 (fun y hy => ?_) (fun q hq => by cases hq)
    cases hy
    obtain ⟨i1, rfl⟩ : ∃ z, z = x3 := ⟨_, rfl⟩
    refine zr_iconst (v := 1) C (by decide) dX3_leavesNone_37 ?_
    obtain rfl := zso h
    exact zr_zret C hr rfl dX3_leavesNone_38
  · refine w_X3_leavesNone_2 l D cy hZ C (Nat.le_of_ble_eq_true rfl) (Nat.le_of_ble_eq_true rfl) ⟨Nat.le_of_ble_eq_true rfl, Nat.le_of_ble_eq_true rfl⟩ hr h0 p0 k_h0 I A 2000 0 (.inr x3) h2 (fun y hy => by cases hy) (fun q hq => ?_)
    cases hq
    exact h

