def g_X5_projectsThatAre_4 (F G : Nat → Nat → Nat) (v0 : Nat) (v1 : Int32) (v2 : Int32) (v3 : Int32) (I : zH) (A : zH) : Option ((Int32 × Int32) ⊕ (Int32 × Int32)) :=
  if (I v0 10) ≤ v3 then (
    some (.inr (v2, v3))
  ) else (
    zck (¬ (v3 < 0 ∨ 5 ≤ v3.toNatClampNeg)) <|
    if (I (G (F v0 5) v3.toNatClampNeg) 6) = v1 then (
      some (.inl (v2 + 1, v3 + 1))
    ) else (
      some (.inl (v2, v3 + 1))
    )
  )
def f_X5_projectsThatAre (F G : Nat → Nat → Nat) (h0 : Nat) (p0 : Int32) (I A : zH) : Option (Int32) :=
  zb2 (zIt (fun x => g_X5_projectsThatAre_4 F G h0 p0 x.1 x.2 I A) 2000 (0, 0)) fun i1 i2 =>
  some i1
set_option maxHeartbeats 4000000 in
set_option maxRecDepth 100000 in
theorem wb_X5_projectsThatAre_4 (l : Launch) (D : va_G) (cy : Nat → ClassId) {L : List Nat} {K N : Nat → Nat} {F G : Nat → Nat → Nat} (hZ : ZL L K N F G) {p : Program} {e : Env} {R : Room} {s : State} {m : MethodId} {args : Array Value} {below : List Frame} {meth : Method} {c : Code} {cells slots : Nat} {Q : State → Prop} (C : ZC p s m args meth c cX5_projectsThatAre yX5_projectsThatAre.cls 4 D cy L K N F G) (hRf : 0 ≤ R.frames) (hRl : 0 ≤ R.locals) (hRc : cells ≤ R.cells ∧ slots ≤ R.slots)  (v0 : Nat) (v1 : Int32) (k0 : K v0 = 5) (I : zH) (A : zH) (v2 : Int32) (v3 : Int32) (o : (Int32 × Int32) ⊕ (Int32 × Int32)) (h : g_X5_projectsThatAre_4 F G v0 v1 v2 v3 I A = some o)
    (hg : ∀ y : Int32 × Int32, o = .inl y → ZW p l e R s m args below meth c 4 D cy L K N F G cells slots Q I A 4 [(0, .ref v0), (1, .int v1), (2, .int y.1), (3, .int y.2)] [])
    (hx : ∀ y : Int32 × Int32, o = .inr y → ZW p l e R s m args below meth c 4 D cy L K N F G cells slots Q I A 34 [(0, .ref v0), (1, .int v1), (2, .int y.1), (3, .int y.2)] []) : ZW p l e R s m args below meth c 4 D cy L K N F G cells slots Q I A 4 [(0, .ref v0), (1, .int v1), (2, .int v2), (3, .int v3)] [] := by
  unfold g_X5_projectsThatAre_4 at h
  refine zr_iload_n C 3 rfl rfl dX5_projectsThatAre_4 ?_
  refine zr_aload_n C 0 rfl rfl dX5_projectsThatAre_5 ?_
  refine zr_get (ci := 5) (k := 10) (v := .int (I v0 10)) C k0 (by decide) rfl zinX5 (by decide) wd_168 rfl dX5_projectsThatAre_6 ?_
  refine zr_icmp_ge (tgt := 34) C (by decide) dX5_projectsThatAre_9 (fun hc1 => ?_) (fun hc1 => ?_)
  · have h := zif_t hc1 h
    obtain rfl := zso h
    refine zr_lv (lv' := [(0, .ref v0), (1, .int v1), (2, .int v2), (3, .int v3)]) C [0, 1, 2, 3] rfl ?_
    exact hx _ rfl
  · have h := zif_f hc1 h
    refine zr_aload_n C 0 rfl rfl dX5_projectsThatAre_12 ?_
    refine zr_get (ci := 5) (k := 5) (v := .ref (F v0 5)) C k0 (by decide) rfl zinX5 (by decide) wd_163 rfl dX5_projectsThatAre_13 ?_
    refine zr_iload_n C 3 rfl rfl dX5_projectsThatAre_16 ?_
    obtain ⟨hc2, h⟩ := zck_e h
    refine zr_ald9 C (zt55 hZ k0).1 (zt55 hZ k0).2 hc2 dX5_projectsThatAre_17 ?_
    refine zr_get (ci := 3) (k := 6) (v := .int (I (G (F v0 5) v3.toNatClampNeg) 6)) C (zt9 hZ (zt55 hZ k0).1 (z_ix (zt55 hZ k0).2 hc2)) (by decide) rfl zinX3 (by decide) wd_138 rfl dX5_projectsThatAre_18 ?_
    refine zr_iload_n C 1 rfl rfl dX5_projectsThatAre_21 ?_
    refine zr_icmp_ne (tgt := 28) C (by decide) dX5_projectsThatAre_22 (fun hc3 => ?_) (fun hc3 => ?_)
    · have h := zif_f hc3 h
      refine zr_iinc (v := v3 + 1) (lv' := [(3, .int (v3 + 1)), (0, .ref v0), (1, .int v1), (2, .int v2)]) C 3 rfl rfl (by decide) rfl dX5_projectsThatAre_28 ?_
      refine zr_goto (tgt := 4) C (by decide) dX5_projectsThatAre_31 ?_
      obtain rfl := zso h
      refine zr_lv (lv' := [(0, .ref v0), (1, .int v1), (2, .int v2), (3, .int (v3 + 1))]) C [1, 2, 3, 0] rfl ?_
      exact hg _ rfl
    · have h := zif_t hc3 h
      refine zr_iinc (v := v2 + 1) (lv' := [(2, .int (v2 + 1)), (0, .ref v0), (1, .int v1), (3, .int v3)]) C 2 rfl rfl (by decide) rfl dX5_projectsThatAre_25 ?_
      refine zr_iinc (v := v3 + 1) (lv' := [(3, .int (v3 + 1)), (2, .int (v2 + 1)), (0, .ref v0), (1, .int v1)]) C 3 rfl rfl (by decide) rfl dX5_projectsThatAre_28 ?_
      refine zr_goto (tgt := 4) C (by decide) dX5_projectsThatAre_31 ?_
      obtain rfl := zso h
      refine zr_lv (lv' := [(0, .ref v0), (1, .int v1), (2, .int (v2 + 1)), (3, .int (v3 + 1))]) C [2, 3, 1, 0] rfl ?_
      exact hg _ rfl
set_option maxHeartbeats 4000000 in
set_option maxRecDepth 100000 in
theorem w_X5_projectsThatAre_4 (l : Launch) (D : va_G) (cy : Nat → ClassId) {L : List Nat} {K N : Nat → Nat} {F G : Nat → Nat → Nat} (hZ : ZL L K N F G) {p : Program} {e : Env} {R : Room} {s : State} {m : MethodId} {args : Array Value} {below : List Frame} {meth : Method} {c : Code} {cells slots : Nat} {Q : State → Prop} (C : ZC p s m args meth c cX5_projectsThatAre yX5_projectsThatAre.cls 4 D cy L K N F G) (hRf : 0 ≤ R.frames) (hRl : 0 ≤ R.locals) (hRc : cells ≤ R.cells ∧ slots ≤ R.slots)  (v0 : Nat) (v1 : Int32) (k0 : K v0 = 5) (I : zH) (A : zH) (n : Nat) (x : Int32 × Int32) (o : Int32 × Int32) (h : zIt (fun x => g_X5_projectsThatAre_4 F G v0 v1 x.1 x.2 I A) n x = some o)
    (hx : ZW p l e R s m args below meth c 4 D cy L K N F G cells slots Q I A 34 [(0, .ref v0), (1, .int v1), (2, .int o.1), (3, .int o.2)] []) : ZW p l e R s m args below meth c 4 D cy L K N F G cells slots Q I A 4 [(0, .ref v0), (1, .int v1), (2, .int x.1), (3, .int x.2)] [] := by
  induction n generalizing x with
  | zero => cases h
  | succ n ih =>
    unfold zIt at h
    cases hb : g_X5_projectsThatAre_4 F G v0 v1 x.1 x.2 I A with
    | none => rw [hb] at h; cases h
    | some q =>
      rw [hb] at h
      refine wb_X5_projectsThatAre_4 l D cy hZ C hRf hRl hRc v0 v1 k0 I A x.1 x.2 q hb (fun y hy => ?_) (fun y hy => ?_)
      · subst hy; exact ih y h
      · subst hy; cases h; exact hx
set_option maxHeartbeats 4000000 in
set_option maxRecDepth 100000 in
theorem c_X5_projectsThatAre (l : Launch) (D : va_G) (cy : Nat → ClassId) {L : List Nat} {K N : Nat → Nat} {F G : Nat → Nat → Nat} (hZ : ZL L K N F G) (h0 : Nat) (p0 : Int32) (k_h0 : K h0 = 5) (I A : zH) {r : Int32} (h : f_X5_projectsThatAre F G h0 p0 I A = some r) : ZMi l yX5_projectsThatAre cX5_projectsThatAre 4 (some .int) { frames := 0, cells := 0, slots := 0, locals := 0 } D cy L K N F G [.ref h0, .int p0] I A r I A := by
  refine ZMi.of (nL := 4) hZ rfl rfl (by decide) (Nat.le_of_ble_eq_true rfl) (fun p e s m args below meth c C hr => ?_)
  unfold f_X5_projectsThatAre at h
  refine zr_lv (lv' := [(0, .ref h0), (1, .int p0)]) C [0, 1] rfl ?_
  refine zr_iconst (v := 0) C (by decide) dX5_projectsThatAre_0 ?_
  refine zr_istore_n (lv' := [(2, .int 0), (0, .ref h0), (1, .int p0)]) C rfl (by decide) rfl dX5_projectsThatAre_1 ?_
  refine zr_iconst (v := 0) C (by decide) dX5_projectsThatAre_2 ?_
  refine zr_istore_n (lv' := [(3, .int 0), (2, .int 0), (0, .ref h0), (1, .int p0)]) C rfl (by decide) rfl dX5_projectsThatAre_3 ?_
  obtain ⟨i1, i2, h3, h⟩ := zb2_e h
  refine zr_lv (lv' := [(0, .ref h0), (1, .int p0), (2, .int 0), (3, .int 0)]) C [2, 3, 1, 0] rfl ?_
  refine w_X5_projectsThatAre_4 l D cy hZ C (Nat.le_of_ble_eq_true rfl) (Nat.le_of_ble_eq_true rfl) ⟨Nat.le_of_ble_eq_true rfl, Nat.le_of_ble_eq_true rfl⟩ h0 p0 k_h0 I A 2000 (0, 0) (i1, i2) h3 ?_
  refine zr_iload_n C 2 rfl rfl dX5_projectsThatAre_34 ?_
  obtain rfl := zso h
  exact zr_iret C hr dX5_projectsThatAre_35

def g_X5_nodesOfAll_4 (F G : Nat → Nat → Nat) (v0 : Nat) (v1 : Int32) (v2 : Int32) (I : zH) (A : zH) : Option ((Int32 × Int32) ⊕ (Int32 × Int32)) :=
  if (I v0 10) ≤ v2 then (
    some (.inr (v1, v2))
  ) else (
    zck (¬ (v2 < 0 ∨ 5 ≤ v2.toNatClampNeg)) <|
    zb (f_J6_bitCount_0f7a4 F G (I (G (F v0 5) v2.toNatClampNeg) 4) I A) fun r3 =>
    some (.inl (v1 + r3, v2 + 1))
  )
def f_X5_nodesOfAll (F G : Nat → Nat → Nat) (h0 : Nat) (I A : zH) : Option (Int32) :=
  zb2 (zIt (fun x => g_X5_nodesOfAll_4 F G h0 x.1 x.2 I A) 2000 (0, 0)) fun i1 i2 =>
  some i1
set_option maxHeartbeats 4000000 in
set_option maxRecDepth 100000 in
theorem wb_X5_nodesOfAll_4 (l : Launch) (D : va_G) (cy : Nat → ClassId) {L : List Nat} {K N : Nat → Nat} {F G : Nat → Nat → Nat} (hZ : ZL L K N F G) {p : Program} {e : Env} {R : Room} {s : State} {m : MethodId} {args : Array Value} {below : List Frame} {meth : Method} {c : Code} {cells slots : Nat} {Q : State → Prop} (C : ZC p s m args meth c cX5_nodesOfAll yX5_nodesOfAll.cls 3 D cy L K N F G) (hRf : 1 ≤ R.frames) (hRl : 20 ≤ R.locals) (hRc : cells ≤ R.cells ∧ slots ≤ R.slots)  (v0 : Nat) (k0 : K v0 = 5) (I : zH) (A : zH) (v1 : Int32) (v2 : Int32) (o : (Int32 × Int32) ⊕ (Int32 × Int32)) (h : g_X5_nodesOfAll_4 F G v0 v1 v2 I A = some o)
    (hg : ∀ y : Int32 × Int32, o = .inl y → ZW p l e R s m args below meth c 3 D cy L K N F G cells slots Q I A 4 [(0, .ref v0), (1, .int y.1), (2, .int y.2)] [])
    (hx : ∀ y : Int32 × Int32, o = .inr y → ZW p l e R s m args below meth c 3 D cy L K N F G cells slots Q I A 33 [(0, .ref v0), (1, .int y.1), (2, .int y.2)] []) : ZW p l e R s m args below meth c 3 D cy L K N F G cells slots Q I A 4 [(0, .ref v0), (1, .int v1), (2, .int v2)] [] := by
  unfold g_X5_nodesOfAll_4 at h
  refine zr_iload_n C 2 rfl rfl dX5_nodesOfAll_4 ?_
  refine zr_aload_n C 0 rfl rfl dX5_nodesOfAll_5 ?_
  refine zr_get (ci := 5) (k := 10) (v := .int (I v0 10)) C k0 (by decide) rfl zinX5 (by decide) wd_168 rfl dX5_nodesOfAll_6 ?_
  refine zr_icmp_ge (tgt := 33) C (by decide) dX5_nodesOfAll_9 (fun hc1 => ?_) (fun hc1 => ?_)
  · have h := zif_t hc1 h
    obtain rfl := zso h
    refine zr_lv (lv' := [(0, .ref v0), (1, .int v1), (2, .int v2)]) C [0, 1, 2] rfl ?_
    exact hx _ rfl
  · have h := zif_f hc1 h
    refine zr_iload_n C 1 rfl rfl dX5_nodesOfAll_12 ?_
    refine zr_aload_n C 0 rfl rfl dX5_nodesOfAll_13 ?_
    refine zr_get (ci := 5) (k := 5) (v := .ref (F v0 5)) C k0 (by decide) rfl zinX5 (by decide) wd_163 rfl dX5_nodesOfAll_14 ?_
    refine zr_iload_n C 2 rfl rfl dX5_nodesOfAll_17 ?_
    obtain ⟨hc2, h⟩ := zck_e h
    refine zr_ald9 C (zt55 hZ k0).1 (zt55 hZ k0).2 hc2 dX5_nodesOfAll_18 ?_
    refine zr_get (ci := 3) (k := 4) (v := .int (I (G (F v0 5) v2.toNatClampNeg) 4)) C (zt9 hZ (zt55 hZ k0).1 (z_ix (zt55 hZ k0).2 hc2)) (by decide) rfl zinX3 (by decide) wd_134 rfl dX5_nodesOfAll_19 ?_
    obtain ⟨r3, h4, h⟩ := zb_e h
    refine zr_callSi (n := 1) (As := [.int (I (G (F v0 5) v2.toNatClampNeg) 4)]) C (c_J6_bitCount_0f7a4 l D cy hZ (I (G (F v0 5) v2.toNatClampNeg) 4) I A h4) wd_503 wd_359 wd_12 wd_360 (by decide +kernel) ⟨(Nat.le_trans (Nat.le_of_ble_eq_true rfl) hRf), (Nat.le_trans (Nat.le_of_ble_eq_true rfl) hRl)⟩ rfl rfl hRc rfl rfl (Nat.le_of_ble_eq_true rfl) dX5_nodesOfAll_22 ?_
    refine zr_iadd C dX5_nodesOfAll_25 ?_
    refine zr_istore_n (lv' := [(1, .int (v1 + r3)), (0, .ref v0), (2, .int v2)]) C rfl (by decide) rfl dX5_nodesOfAll_26 ?_
    refine zr_iinc (v := v2 + 1) (lv' := [(2, .int (v2 + 1)), (1, .int (v1 + r3)), (0, .ref v0)]) C 2 rfl rfl (by decide) rfl dX5_nodesOfAll_27 ?_
    refine zr_goto (tgt := 4) C (by decide) dX5_nodesOfAll_30 ?_
    obtain rfl := zso h
    refine zr_lv (lv' := [(0, .ref v0), (1, .int (v1 + r3)), (2, .int (v2 + 1))]) C [2, 1, 0] rfl ?_
    exact hg _ rfl
set_option maxHeartbeats 4000000 in
set_option maxRecDepth 100000 in
theorem w_X5_nodesOfAll_4 (l : Launch) (D : va_G) (cy : Nat → ClassId) {L : List Nat} {K N : Nat → Nat} {F G : Nat → Nat → Nat} (hZ : ZL L K N F G) {p : Program} {e : Env} {R : Room} {s : State} {m : MethodId} {args : Array Value} {below : List Frame} {meth : Method} {c : Code} {cells slots : Nat} {Q : State → Prop} (C : ZC p s m args meth c cX5_nodesOfAll yX5_nodesOfAll.cls 3 D cy L K N F G) (hRf : 1 ≤ R.frames) (hRl : 20 ≤ R.locals) (hRc : cells ≤ R.cells ∧ slots ≤ R.slots)  (v0 : Nat) (k0 : K v0 = 5) (I : zH) (A : zH) (n : Nat) (x : Int32 × Int32) (o : Int32 × Int32) (h : zIt (fun x => g_X5_nodesOfAll_4 F G v0 x.1 x.2 I A) n x = some o)
    (hx : ZW p l e R s m args below meth c 3 D cy L K N F G cells slots Q I A 33 [(0, .ref v0), (1, .int o.1), (2, .int o.2)] []) : ZW p l e R s m args below meth c 3 D cy L K N F G cells slots Q I A 4 [(0, .ref v0), (1, .int x.1), (2, .int x.2)] [] := by
  induction n generalizing x with
  | zero => cases h
  | succ n ih =>
    unfold zIt at h
    cases hb : g_X5_nodesOfAll_4 F G v0 x.1 x.2 I A with
    | none => rw [hb] at h; cases h
    | some q =>
      rw [hb] at h
      refine wb_X5_nodesOfAll_4 l D cy hZ C hRf hRl hRc v0 k0 I A x.1 x.2 q hb (fun y hy => ?_) (fun y hy => ?_)
      · subst hy; exact ih y h
      · subst hy; cases h; exact hx
set_option maxHeartbeats 4000000 in
set_option maxRecDepth 100000 in
theorem c_X5_nodesOfAll (l : Launch) (D : va_G) (cy : Nat → ClassId) {L : List Nat} {K N : Nat → Nat} {F G : Nat → Nat → Nat} (hZ : ZL L K N F G) (h0 : Nat) (k_h0 : K h0 = 5) (I A : zH) {r : Int32} (h : f_X5_nodesOfAll F G h0 I A = some r) : ZMi l yX5_nodesOfAll cX5_nodesOfAll 3 (some .int) { frames := 1, cells := 0, slots := 0, locals := 20 } D cy L K N F G [.ref h0] I A r I A := by
  refine ZMi.of (nL := 3) hZ rfl rfl (by decide) (Nat.le_of_ble_eq_true rfl) (fun p e s m args below meth c C hr => ?_)
  unfold f_X5_nodesOfAll at h
  refine zr_lv (lv' := [(0, .ref h0)]) C [0] rfl ?_
  refine zr_iconst (v := 0) C (by decide) dX5_nodesOfAll_0 ?_
  refine zr_istore_n (lv' := [(1, .int 0), (0, .ref h0)]) C rfl (by decide) rfl dX5_nodesOfAll_1 ?_
  refine zr_iconst (v := 0) C (by decide) dX5_nodesOfAll_2 ?_
  refine zr_istore_n (lv' := [(2, .int 0), (1, .int 0), (0, .ref h0)]) C rfl (by decide) rfl dX5_nodesOfAll_3 ?_
  obtain ⟨i1, i2, h3, h⟩ := zb2_e h
  refine zr_lv (lv' := [(0, .ref h0), (1, .int 0), (2, .int 0)]) C [2, 1, 0] rfl ?_
  refine w_X5_nodesOfAll_4 l D cy hZ C (Nat.le_of_ble_eq_true rfl) (Nat.le_of_ble_eq_true rfl) ⟨Nat.le_of_ble_eq_true rfl, Nat.le_of_ble_eq_true rfl⟩ h0 k_h0 I A 2000 (0, 0) (i1, i2) h3 ?_
  refine zr_iload_n C 1 rfl rfl dX5_nodesOfAll_33 ?_
  obtain rfl := zso h
  exact zr_iret C hr dX5_nodesOfAll_34

def g_X5_firstPieces_4 (F G : Nat → Nat → Nat) (v0 : Nat) (v1 : Int32) (v2 : Int32) (I : zH) (A : zH) : Option ((Int32 × Int32) ⊕ (Int32 × Int32)) :=
  if (I v0 8) ≤ v2 then (
    some (.inr (v1, v2))
  ) else (
    zck (¬ (v2 < 0 ∨ 16 ≤ v2.toNatClampNeg)) <|
    if (A (F v0 3) v2.toNatClampNeg) = 0 then (
      some (.inl (v1 + 1, v2 + 1))
    ) else (
      some (.inl (v1, v2 + 1))
    )
  )
def f_X5_firstPieces (F G : Nat → Nat → Nat) (h0 : Nat) (I A : zH) : Option (Int32) :=
  zb2 (zIt (fun x => g_X5_firstPieces_4 F G h0 x.1 x.2 I A) 2000 (0, 0)) fun i1 i2 =>
  some i1
set_option maxHeartbeats 4000000 in
set_option maxRecDepth 100000 in
theorem wb_X5_firstPieces_4 (l : Launch) (D : va_G) (cy : Nat → ClassId) {L : List Nat} {K N : Nat → Nat} {F G : Nat → Nat → Nat} (hZ : ZL L K N F G) {p : Program} {e : Env} {R : Room} {s : State} {m : MethodId} {args : Array Value} {below : List Frame} {meth : Method} {c : Code} {cells slots : Nat} {Q : State → Prop} (C : ZC p s m args meth c cX5_firstPieces yX5_firstPieces.cls 3 D cy L K N F G) (hRf : 0 ≤ R.frames) (hRl : 0 ≤ R.locals) (hRc : cells ≤ R.cells ∧ slots ≤ R.slots)  (v0 : Nat) (k0 : K v0 = 5) (I : zH) (A : zH) (v1 : Int32) (v2 : Int32) (o : (Int32 × Int32) ⊕ (Int32 × Int32)) (h : g_X5_firstPieces_4 F G v0 v1 v2 I A = some o)
    (hg : ∀ y : Int32 × Int32, o = .inl y → ZW p l e R s m args below meth c 3 D cy L K N F G cells slots Q I A 4 [(0, .ref v0), (1, .int y.1), (2, .int y.2)] [])
    (hx : ∀ y : Int32 × Int32, o = .inr y → ZW p l e R s m args below meth c 3 D cy L K N F G cells slots Q I A 30 [(0, .ref v0), (1, .int y.1), (2, .int y.2)] []) : ZW p l e R s m args below meth c 3 D cy L K N F G cells slots Q I A 4 [(0, .ref v0), (1, .int v1), (2, .int v2)] [] := by
  unfold g_X5_firstPieces_4 at h
  refine zr_iload_n C 2 rfl rfl dX5_firstPieces_4 ?_
  refine zr_aload_n C 0 rfl rfl dX5_firstPieces_5 ?_
  refine zr_get (ci := 5) (k := 8) (v := .int (I v0 8)) C k0 (by decide) rfl zinX5 (by decide) wd_166 rfl dX5_firstPieces_6 ?_
  refine zr_icmp_ge (tgt := 30) C (by decide) dX5_firstPieces_9 (fun hc1 => ?_) (fun hc1 => ?_)
  · have h := zif_t hc1 h
    obtain rfl := zso h
    refine zr_lv (lv' := [(0, .ref v0), (1, .int v1), (2, .int v2)]) C [0, 1, 2] rfl ?_
    exact hx _ rfl
  · have h := zif_f hc1 h
    refine zr_aload_n C 0 rfl rfl dX5_firstPieces_12 ?_
    refine zr_get (ci := 5) (k := 3) (v := .ref (F v0 3)) C k0 (by decide) rfl zinX5 (by decide) wd_161 rfl dX5_firstPieces_13 ?_
    refine zr_iload_n C 2 rfl rfl dX5_firstPieces_16 ?_
    obtain ⟨hc2, h⟩ := zck_e h
    refine zr_iald C (zt53 hZ k0).1 (zt53 hZ k0).2 hc2 dX5_firstPieces_17 ?_
    refine zr_if_ne (tgt := 24) C (by decide) dX5_firstPieces_18 (fun hc3 => ?_) (fun hc3 => ?_)
    · have h := zif_f hc3 h
      refine zr_iinc (v := v2 + 1) (lv' := [(2, .int (v2 + 1)), (0, .ref v0), (1, .int v1)]) C 2 rfl rfl (by decide) rfl dX5_firstPieces_24 ?_
      refine zr_goto (tgt := 4) C (by decide) dX5_firstPieces_27 ?_
      obtain rfl := zso h
      refine zr_lv (lv' := [(0, .ref v0), (1, .int v1), (2, .int (v2 + 1))]) C [1, 2, 0] rfl ?_
      exact hg _ rfl
    · have h := zif_t hc3 h
      refine zr_iinc (v := v1 + 1) (lv' := [(1, .int (v1 + 1)), (0, .ref v0), (2, .int v2)]) C 1 rfl rfl (by decide) rfl dX5_firstPieces_21 ?_
      refine zr_iinc (v := v2 + 1) (lv' := [(2, .int (v2 + 1)), (1, .int (v1 + 1)), (0, .ref v0)]) C 2 rfl rfl (by decide) rfl dX5_firstPieces_24 ?_
      refine zr_goto (tgt := 4) C (by decide) dX5_firstPieces_27 ?_
      obtain rfl := zso h
      refine zr_lv (lv' := [(0, .ref v0), (1, .int (v1 + 1)), (2, .int (v2 + 1))]) C [2, 1, 0] rfl ?_
      exact hg _ rfl
set_option maxHeartbeats 4000000 in
set_option maxRecDepth 100000 in
theorem w_X5_firstPieces_4 (l : Launch) (D : va_G) (cy : Nat → ClassId) {L : List Nat} {K N : Nat → Nat} {F G : Nat → Nat → Nat} (hZ : ZL L K N F G) {p : Program} {e : Env} {R : Room} {s : State} {m : MethodId} {args : Array Value} {below : List Frame} {meth : Method} {c : Code} {cells slots : Nat} {Q : State → Prop} (C : ZC p s m args meth c cX5_firstPieces yX5_firstPieces.cls 3 D cy L K N F G) (hRf : 0 ≤ R.frames) (hRl : 0 ≤ R.locals) (hRc : cells ≤ R.cells ∧ slots ≤ R.slots)  (v0 : Nat) (k0 : K v0 = 5) (I : zH) (A : zH) (n : Nat) (x : Int32 × Int32) (o : Int32 × Int32) (h : zIt (fun x => g_X5_firstPieces_4 F G v0 x.1 x.2 I A) n x = some o)
    (hx : ZW p l e R s m args below meth c 3 D cy L K N F G cells slots Q I A 30 [(0, .ref v0), (1, .int o.1), (2, .int o.2)] []) : ZW p l e R s m args below meth c 3 D cy L K N F G cells slots Q I A 4 [(0, .ref v0), (1, .int x.1), (2, .int x.2)] [] := by
  induction n generalizing x with
  | zero => cases h
  | succ n ih =>
    unfold zIt at h
    cases hb : g_X5_firstPieces_4 F G v0 x.1 x.2 I A with
    | none => rw [hb] at h; cases h
    | some q =>
      rw [hb] at h
      refine wb_X5_firstPieces_4 l D cy hZ C hRf hRl hRc v0 k0 I A x.1 x.2 q hb (fun y hy => ?_) (fun y hy => ?_)
      · subst hy; exact ih y h
      · subst hy; cases h; exact hx
set_option maxHeartbeats 4000000 in
set_option maxRecDepth 100000 in
theorem c_X5_firstPieces (l : Launch) (D : va_G) (cy : Nat → ClassId) {L : List Nat} {K N : Nat → Nat} {F G : Nat → Nat → Nat} (hZ : ZL L K N F G) (h0 : Nat) (k_h0 : K h0 = 5) (I A : zH) {r : Int32} (h : f_X5_firstPieces F G h0 I A = some r) : ZMi l yX5_firstPieces cX5_firstPieces 3 (some .int) { frames := 0, cells := 0, slots := 0, locals := 0 } D cy L K N F G [.ref h0] I A r I A := by
  refine ZMi.of (nL := 3) hZ rfl rfl (by decide) (Nat.le_of_ble_eq_true rfl) (fun p e s m args below meth c C hr => ?_)
  unfold f_X5_firstPieces at h
  refine zr_lv (lv' := [(0, .ref h0)]) C [0] rfl ?_
  refine zr_iconst (v := 0) C (by decide) dX5_firstPieces_0 ?_
  refine zr_istore_n (lv' := [(1, .int 0), (0, .ref h0)]) C rfl (by decide) rfl dX5_firstPieces_1 ?_
  refine zr_iconst (v := 0) C (by decide) dX5_firstPieces_2 ?_
  refine zr_istore_n (lv' := [(2, .int 0), (1, .int 0), (0, .ref h0)]) C rfl (by decide) rfl dX5_firstPieces_3 ?_
  obtain ⟨i1, i2, h3, h⟩ := zb2_e h
  refine zr_lv (lv' := [(0, .ref h0), (1, .int 0), (2, .int 0)]) C [2, 1, 0] rfl ?_
  refine w_X5_firstPieces_4 l D cy hZ C (Nat.le_of_ble_eq_true rfl) (Nat.le_of_ble_eq_true rfl) ⟨Nat.le_of_ble_eq_true rfl, Nat.le_of_ble_eq_true rfl⟩ h0 k_h0 I A 2000 (0, 0) (i1, i2) h3 ?_
  refine zr_iload_n C 1 rfl rfl dX5_firstPieces_30 ?_
  obtain rfl := zso h
  exact zr_iret C hr dX5_firstPieces_31

def f_X5_many (F G : Nat → Nat → Nat) (h0 : Nat) (p0 : Int32) (I A : zH) : Option (Int32) :=
  if p0 = 0 then (
    some (I (F h0 0) 2)
  ) else (
  if p0 = 1 then (
    some (I h0 8)
  ) else (
  if p0 = 2 then (
    some (I h0 9)
  ) else (
  if p0 = 3 then (
    some (I h0 10)
  ) else (
  if p0 = 4 then (
    zb (f_X5_projectsThatAre F G h0 0 I A) fun r6 =>
    some r6
  ) else (
  if p0 = 5 then (
    zb (f_X5_projectsThatAre F G h0 1 I A) fun r10 =>
    some r10
  ) else (
  if p0 = 6 then (
    zb (f_X5_projectsThatAre F G h0 2 I A) fun r14 =>
    some r14
  ) else (
  if p0 = 7 then (
    zb (f_X5_nodesOfAll F G h0 I A) fun r18 =>
    some r18
  ) else (
  if p0 = 8 then (
    zb (f_X5_firstPieces F G h0 I A) fun r22 =>
    some r22
  ) else (
  if p0 = 9 then (
    some (I h0 11)
  ) else (
  if p0 = 10 then (
    some (I h0 12)
  ) else (
    none
  )))))))))))
set_option maxHeartbeats 4000000 in
set_option maxRecDepth 100000 in
theorem c_X5_many (l : Launch) (D : va_G) (cy : Nat → ClassId) {L : List Nat} {K N : Nat → Nat} {F G : Nat → Nat → Nat} (hZ : ZL L K N F G) (h0 : Nat) (p0 : Int32) (k_h0 : K h0 = 5) (I A : zH) {r : Int32} (h : f_X5_many F G h0 p0 I A = some r) : ZMi l yX5_many cX5_many 2 (some .int) { frames := 2, cells := 0, slots := 0, locals := 42 } D cy L K N F G [.ref h0, .int p0] I A r I A := by
  refine ZMi.of (nL := 2) hZ rfl rfl (by decide) (Nat.le_of_ble_eq_true rfl) (fun p e s m args below meth c C hr => ?_)
  unfold f_X5_many at h
  refine zr_lv (lv' := [(0, .ref h0), (1, .int p0)]) C [0, 1] rfl ?_
  refine zr_iload_n C 1 rfl rfl dX5_many_0 ?_
  by_cases hc1 : p0 = 0
  · have h := zif_t hc1 h
    refine zr_tableIn (off := 59) (tgt := 60) C (by rw [hc1]; decide) (by rw [hc1]; decide) (by rw [hc1]; decide) (by decide) dX5_many_1 ?_
    refine zr_aload_n C 0 rfl rfl dX5_many_60 ?_
    refine zr_get (ci := 5) (k := 0) (v := .ref (F h0 0)) C k_h0 (by decide) rfl zinX5 (by decide) wd_158 rfl dX5_many_61 ?_
    refine zr_get (ci := 4) (k := 2) (v := .int (I (F h0 0) 2)) C (zt50 hZ k_h0) (by decide) rfl zinX4 (by decide) wd_32 rfl dX5_many_64 ?_
    obtain rfl := zso h
    exact zr_iret C hr dX5_many_67
  have h := zif_f hc1 h
  by_cases hc2 : p0 = 1
  · have h := zif_t hc2 h
    refine zr_tableIn (off := 67) (tgt := 68) C (by rw [hc2]; decide) (by rw [hc2]; decide) (by rw [hc2]; decide) (by decide) dX5_many_1 ?_
    refine zr_aload_n C 0 rfl rfl dX5_many_68 ?_
    refine zr_get (ci := 5) (k := 8) (v := .int (I h0 8)) C k_h0 (by decide) rfl zinX5 (by decide) wd_166 rfl dX5_many_69 ?_
    obtain rfl := zso h
    exact zr_iret C hr dX5_many_72
  have h := zif_f hc2 h
  by_cases hc3 : p0 = 2
  · have h := zif_t hc3 h
    refine zr_tableIn (off := 72) (tgt := 73) C (by rw [hc3]; decide) (by rw [hc3]; decide) (by rw [hc3]; decide) (by decide) dX5_many_1 ?_
    refine zr_aload_n C 0 rfl rfl dX5_many_73 ?_
    refine zr_get (ci := 5) (k := 9) (v := .int (I h0 9)) C k_h0 (by decide) rfl zinX5 (by decide) wd_167 rfl dX5_many_74 ?_
    obtain rfl := zso h
    exact zr_iret C hr dX5_many_77
  have h := zif_f hc3 h
  by_cases hc4 : p0 = 3
  · have h := zif_t hc4 h
    refine zr_tableIn (off := 77) (tgt := 78) C (by rw [hc4]; decide) (by rw [hc4]; decide) (by rw [hc4]; decide) (by decide) dX5_many_1 ?_
    refine zr_aload_n C 0 rfl rfl dX5_many_78 ?_
    refine zr_get (ci := 5) (k := 10) (v := .int (I h0 10)) C k_h0 (by decide) rfl zinX5 (by decide) wd_168 rfl dX5_many_79 ?_
    obtain rfl := zso h
    exact zr_iret C hr dX5_many_82
  have h := zif_f hc4 h
  by_cases hc5 : p0 = 4
  · have h := zif_t hc5 h
    refine zr_tableIn (off := 82) (tgt := 83) C (by rw [hc5]; decide) (by rw [hc5]; decide) (by rw [hc5]; decide) (by decide) dX5_many_1 ?_
    refine zr_aload_n C 0 rfl rfl dX5_many_83 ?_
    refine zr_iconst (v := 0) C (by decide) dX5_many_84 ?_
    obtain ⟨r6, h7, h⟩ := zb_e h
    refine zr_callVi (n := 1) (As := [.int 0]) C (c_X5_projectsThatAre l D cy hZ h0 0 k_h0 I A h7) wd_511 wd_513 wp_18 wd_1 wd_514 (by decide +kernel) ⟨(Nat.le_of_ble_eq_true rfl), (Nat.le_of_ble_eq_true rfl)⟩ rfl rfl ⟨Nat.le_of_ble_eq_true rfl, Nat.le_of_ble_eq_true rfl⟩ k_h0 (by decide) rfl rfl rfl (Nat.le_of_ble_eq_true rfl) dX5_many_85 ?_
    obtain rfl := zso h
    exact zr_iret C hr dX5_many_88
  have h := zif_f hc5 h
  by_cases hc9 : p0 = 5
  · have h := zif_t hc9 h
    refine zr_tableIn (off := 88) (tgt := 89) C (by rw [hc9]; decide) (by rw [hc9]; decide) (by rw [hc9]; decide) (by decide) dX5_many_1 ?_
    refine zr_aload_n C 0 rfl rfl dX5_many_89 ?_
    refine zr_iconst (v := 1) C (by decide) dX5_many_90 ?_
    obtain ⟨r10, h11, h⟩ := zb_e h
    refine zr_callVi (n := 1) (As := [.int 1]) C (c_X5_projectsThatAre l D cy hZ h0 1 k_h0 I A h11) wd_511 wd_513 wp_18 wd_1 wd_514 (by decide +kernel) ⟨(Nat.le_of_ble_eq_true rfl), (Nat.le_of_ble_eq_true rfl)⟩ rfl rfl ⟨Nat.le_of_ble_eq_true rfl, Nat.le_of_ble_eq_true rfl⟩ k_h0 (by decide) rfl rfl rfl (Nat.le_of_ble_eq_true rfl) dX5_many_91 ?_
    obtain rfl := zso h
    exact zr_iret C hr dX5_many_94
  have h := zif_f hc9 h
  by_cases hc13 : p0 = 6
  · have h := zif_t hc13 h
    refine zr_tableIn (off := 94) (tgt := 95) C (by rw [hc13]; decide) (by rw [hc13]; decide) (by rw [hc13]; decide) (by decide) dX5_many_1 ?_
    refine zr_aload_n C 0 rfl rfl dX5_many_95 ?_
    refine zr_iconst (v := 2) C (by decide) dX5_many_96 ?_
    obtain ⟨r14, h15, h⟩ := zb_e h
    refine zr_callVi (n := 1) (As := [.int 2]) C (c_X5_projectsThatAre l D cy hZ h0 2 k_h0 I A h15) wd_511 wd_513 wp_18 wd_1 wd_514 (by decide +kernel) ⟨(Nat.le_of_ble_eq_true rfl), (Nat.le_of_ble_eq_true rfl)⟩ rfl rfl ⟨Nat.le_of_ble_eq_true rfl, Nat.le_of_ble_eq_true rfl⟩ k_h0 (by decide) rfl rfl rfl (Nat.le_of_ble_eq_true rfl) dX5_many_97 ?_
    obtain rfl := zso h
    exact zr_iret C hr dX5_many_100
  have h := zif_f hc13 h
  by_cases hc17 : p0 = 7
  · have h := zif_t hc17 h
    refine zr_tableIn (off := 100) (tgt := 101) C (by rw [hc17]; decide) (by rw [hc17]; decide) (by rw [hc17]; decide) (by decide) dX5_many_1 ?_
    refine zr_aload_n C 0 rfl rfl dX5_many_101 ?_
    obtain ⟨r18, h19, h⟩ := zb_e h
    refine zr_callVi (n := 0) (As := []) C (c_X5_nodesOfAll l D cy hZ h0 k_h0 I A h19) wd_515 wd_517 wp_19 wd_1 wd_518 (by decide +kernel) ⟨(Nat.le_of_ble_eq_true rfl), (Nat.le_of_ble_eq_true rfl)⟩ rfl rfl ⟨Nat.le_of_ble_eq_true rfl, Nat.le_of_ble_eq_true rfl⟩ k_h0 (by decide) rfl rfl rfl (Nat.le_of_ble_eq_true rfl) dX5_many_102 ?_
    obtain rfl := zso h
    exact zr_iret C hr dX5_many_105
  have h := zif_f hc17 h
  by_cases hc21 : p0 = 8
  · have h := zif_t hc21 h
    refine zr_tableIn (off := 105) (tgt := 106) C (by rw [hc21]; decide) (by rw [hc21]; decide) (by rw [hc21]; decide) (by decide) dX5_many_1 ?_
    refine zr_aload_n C 0 rfl rfl dX5_many_106 ?_
    obtain ⟨r22, h23, h⟩ := zb_e h
    refine zr_callVi (n := 0) (As := []) C (c_X5_firstPieces l D cy hZ h0 k_h0 I A h23) wd_519 wd_521 wp_20 wd_1 wd_522 (by decide +kernel) ⟨(Nat.le_of_ble_eq_true rfl), (Nat.le_of_ble_eq_true rfl)⟩ rfl rfl ⟨Nat.le_of_ble_eq_true rfl, Nat.le_of_ble_eq_true rfl⟩ k_h0 (by decide) rfl rfl rfl (Nat.le_of_ble_eq_true rfl) dX5_many_107 ?_
    obtain rfl := zso h
    exact zr_iret C hr dX5_many_110
  have h := zif_f hc21 h
  by_cases hc25 : p0 = 9
  · have h := zif_t hc25 h
    refine zr_tableIn (off := 110) (tgt := 111) C (by rw [hc25]; decide) (by rw [hc25]; decide) (by rw [hc25]; decide) (by decide) dX5_many_1 ?_
    refine zr_aload_n C 0 rfl rfl dX5_many_111 ?_
    refine zr_get (ci := 5) (k := 11) (v := .int (I h0 11)) C k_h0 (by decide) rfl zinX5 (by decide) wd_169 rfl dX5_many_112 ?_
    obtain rfl := zso h
    exact zr_iret C hr dX5_many_115
  have h := zif_f hc25 h
  by_cases hc26 : p0 = 10
  · have h := zif_t hc26 h
    refine zr_tableIn (off := 115) (tgt := 116) C (by rw [hc26]; decide) (by rw [hc26]; decide) (by rw [hc26]; decide) (by decide) dX5_many_1 ?_
    refine zr_aload_n C 0 rfl rfl dX5_many_116 ?_
    refine zr_get (ci := 5) (k := 12) (v := .int (I h0 12)) C k_h0 (by decide) rfl zinX5 (by decide) wd_170 rfl dX5_many_117 ?_
    obtain rfl := zso h
    exact zr_iret C hr dX5_many_120
  have h := zif_f hc26 h
  refine zr_tableOut (tgt := 121) C (zsw_0_10 hc1 hc2 hc3 hc4 hc5 hc9 hc13 hc17 hc21 hc25 hc26) (by decide) dX5_many_1 ?_
  exact zno h

def f_X5_fold (F G : Nat → Nat → Nat) (p0 : Int64) (p1 : Int32) (I A : zH) : Option (Int64) :=
  some ((p0 * 31) + p1.toInt64)
set_option maxHeartbeats 4000000 in
set_option maxRecDepth 100000 in
theorem c_X5_fold (l : Launch) (D : va_G) (cy : Nat → ClassId) {L : List Nat} {K N : Nat → Nat} {F G : Nat → Nat → Nat} (hZ : ZL L K N F G) (p0 : Int64) (p1 : Int32)  (I A : zH) {r : Int64} (h : f_X5_fold F G p0 p1 I A = some r) : ZMl l yX5_fold cX5_fold 3 (some .long) { frames := 0, cells := 0, slots := 0, locals := 0 } D cy L K N F G [.long p0, .int p1] I A r I A := by
  refine ZMl.of (nL := 3) hZ rfl rfl (by decide) (Nat.le_of_ble_eq_true rfl) (fun p e s m args below meth c C hr => ?_)
  unfold f_X5_fold at h
  refine zr_lv (lv' := [(0, .long p0), (2, .int p1)]) C [0, 1] rfl ?_
  refine zr_lload_n C 0 rfl rfl dX5_fold_0 ?_
  refine zr_ldc2 (v := 31) C wd_602 dX5_fold_1 ?_
  refine zr_lmul C dX5_fold_4 ?_
  refine zr_iload_n C 1 rfl rfl dX5_fold_5 ?_
  refine zr_i2l C dX5_fold_6 ?_
  refine zr_ladd C dX5_fold_7 ?_
  obtain rfl := zso h
  exact zr_lret C hr dX5_fold_8

def f_X5_needPiece (F G : Nat → Nat → Nat) (h0 : Nat) (p0 : Int32) (I A : zH) : Option (Unit) :=
  if p0 < 0 then (
    none
  ) else (
    if p0 < (I h0 8) then (
      some ()
    ) else (
      none
    )
  )
set_option maxHeartbeats 4000000 in
set_option maxRecDepth 100000 in
theorem c_X5_needPiece (l : Launch) (D : va_G) (cy : Nat → ClassId) {L : List Nat} {K N : Nat → Nat} {F G : Nat → Nat → Nat} (hZ : ZL L K N F G) (h0 : Nat) (p0 : Int32) (k_h0 : K h0 = 5) (I A : zH) (h : f_X5_needPiece F G h0 p0 I A = some ()) : ZMv l yX5_needPiece cX5_needPiece 2 none { frames := 0, cells := 0, slots := 0, locals := 0 } D cy L K N F G [.ref h0, .int p0] I A I A := by
  refine ZMv.of (nL := 2) hZ rfl rfl (by decide) (Nat.le_of_ble_eq_true rfl) (fun p e s m args below meth c C hr => ?_)
  unfold f_X5_needPiece at h
  refine zr_lv (lv' := [(0, .ref h0), (1, .int p0)]) C [0, 1] rfl ?_
  refine zr_iload_n C 1 rfl rfl dX5_needPiece_0 ?_
  refine zr_if_lt (tgt := 12) C (by decide) dX5_needPiece_1 (fun hc1 => ?_) (fun hc1 => ?_)
  · have h := zif_t hc1 h
    exact zno h
  · have h := zif_f hc1 h
    refine zr_iload_n C 1 rfl rfl dX5_needPiece_4 ?_
    refine zr_aload_n C 0 rfl rfl dX5_needPiece_5 ?_
    refine zr_get (ci := 5) (k := 8) (v := .int (I h0 8)) C k_h0 (by decide) rfl zinX5 (by decide) wd_166 rfl dX5_needPiece_6 ?_
    refine zr_icmp_lt (tgt := 23) C (by decide) dX5_needPiece_9 (fun hc2 => ?_) (fun hc2 => ?_)
    · have h := zif_t hc2 h
      exact zr_vret C hr dX5_needPiece_23
    · have h := zif_f hc2 h
      exact zno h

def g_X5_offspring_6 (F G : Nat → Nat → Nat) (v0 : Nat) (v1 : Int32) (v2 : Int32) (v3 : Int32) (I : zH) (A : zH) : Option ((Int32 × Int32) ⊕ (Int32 × Int32)) :=
  if (I v0 8) ≤ v3 then (
    some (.inr (v2, v3))
  ) else (
    zck (¬ (v3 < 0 ∨ 16 ≤ v3.toNatClampNeg)) <|
    zb (f_X5_hasBit F G (A (F v0 3) v3.toNatClampNeg) v1 I A) fun r3 =>
    if r3 = 0 then (
      some (.inl (v2, v3 + 1))
    ) else (
      some (.inl (v2 ||| ((1 : Int32) <<< (v3 &&& 31)), v3 + 1))
    )
  )
def f_X5_offspring (F G : Nat → Nat → Nat) (h0 : Nat) (p0 : Int32) (I A : zH) : Option (Int32) :=
  zb2 (zIt (fun x => g_X5_offspring_6 F G h0 p0 x.1 x.2 I A) 2000 (0, p0 + 1)) fun i1 i2 =>
  some i1
set_option maxHeartbeats 4000000 in
set_option maxRecDepth 100000 in
theorem wb_X5_offspring_6 (l : Launch) (D : va_G) (cy : Nat → ClassId) {L : List Nat} {K N : Nat → Nat} {F G : Nat → Nat → Nat} (hZ : ZL L K N F G) {p : Program} {e : Env} {R : Room} {s : State} {m : MethodId} {args : Array Value} {below : List Frame} {meth : Method} {c : Code} {cells slots : Nat} {Q : State → Prop} (C : ZC p s m args meth c cX5_offspring yX5_offspring.cls 4 D cy L K N F G) (hRf : 1 ≤ R.frames) (hRl : 21 ≤ R.locals) (hRc : cells ≤ R.cells ∧ slots ≤ R.slots)  (v0 : Nat) (v1 : Int32) (k0 : K v0 = 5) (I : zH) (A : zH) (v2 : Int32) (v3 : Int32) (o : (Int32 × Int32) ⊕ (Int32 × Int32)) (h : g_X5_offspring_6 F G v0 v1 v2 v3 I A = some o)
    (hg : ∀ y : Int32 × Int32, o = .inl y → ZW p l e R s m args below meth c 4 D cy L K N F G cells slots Q I A 6 [(0, .ref v0), (1, .int v1), (2, .int y.1), (3, .int y.2)] [])
    (hx : ∀ y : Int32 × Int32, o = .inr y → ZW p l e R s m args below meth c 4 D cy L K N F G cells slots Q I A 39 [(0, .ref v0), (1, .int v1), (2, .int y.1), (3, .int y.2)] []) : ZW p l e R s m args below meth c 4 D cy L K N F G cells slots Q I A 6 [(0, .ref v0), (1, .int v1), (2, .int v2), (3, .int v3)] [] := by
  unfold g_X5_offspring_6 at h
  refine zr_iload_n C 3 rfl rfl dX5_offspring_6 ?_
  refine zr_aload_n C 0 rfl rfl dX5_offspring_7 ?_
  refine zr_get (ci := 5) (k := 8) (v := .int (I v0 8)) C k0 (by decide) rfl zinX5 (by decide) wd_166 rfl dX5_offspring_8 ?_
  refine zr_icmp_ge (tgt := 39) C (by decide) dX5_offspring_11 (fun hc1 => ?_) (fun hc1 => ?_)
  · have h := zif_t hc1 h
    obtain rfl := zso h
    refine zr_lv (lv' := [(0, .ref v0), (1, .int v1), (2, .int v2), (3, .int v3)]) C [0, 1, 2, 3] rfl ?_
    exact hx _ rfl
  · have h := zif_f hc1 h
    refine zr_aload_n C 0 rfl rfl dX5_offspring_14 ?_
    refine zr_get (ci := 5) (k := 3) (v := .ref (F v0 3)) C k0 (by decide) rfl zinX5 (by decide) wd_161 rfl dX5_offspring_15 ?_
    refine zr_iload_n C 3 rfl rfl dX5_offspring_18 ?_
    obtain ⟨hc2, h⟩ := zck_e h
    refine zr_iald C (zt53 hZ k0).1 (zt53 hZ k0).2 hc2 dX5_offspring_19 ?_
    refine zr_iload_n C 1 rfl rfl dX5_offspring_20 ?_
    obtain ⟨r3, h4, h⟩ := zb_e h
    refine zr_callSi (n := 2) (As := [.int (A (F v0 3) v3.toNatClampNeg), .int v1]) C (c_X5_hasBit l D cy hZ (A (F v0 3) v3.toNatClampNeg) v1 I A h4) wd_392 wd_323 wd_1 wd_324 (by decide +kernel) ⟨(Nat.le_trans (Nat.le_of_ble_eq_true rfl) hRf), (Nat.le_trans (Nat.le_of_ble_eq_true rfl) hRl)⟩ rfl rfl hRc rfl rfl (Nat.le_of_ble_eq_true rfl) dX5_offspring_21 ?_
    refine zr_if_eq (tgt := 33) C (by decide) dX5_offspring_24 (fun hc6 => ?_) (fun hc6 => ?_)
    · have h := zif_t hc6 h
      refine zr_iinc (v := v3 + 1) (lv' := [(3, .int (v3 + 1)), (0, .ref v0), (1, .int v1), (2, .int v2)]) C 3 rfl rfl (by decide) rfl dX5_offspring_33 ?_
      refine zr_goto (tgt := 6) C (by decide) dX5_offspring_36 ?_
      obtain rfl := zso h
      refine zr_lv (lv' := [(0, .ref v0), (1, .int v1), (2, .int v2), (3, .int (v3 + 1))]) C [1, 2, 3, 0] rfl ?_
      exact hg _ rfl
    · have h := zif_f hc6 h
      refine zr_iload_n C 2 rfl rfl dX5_offspring_27 ?_
      refine zr_iconst (v := 1) C (by decide) dX5_offspring_28 ?_
      refine zr_iload_n C 3 rfl rfl dX5_offspring_29 ?_
      refine zr_ishl C dX5_offspring_30 ?_
      refine zr_ior C dX5_offspring_31 ?_
      refine zr_istore_n (lv' := [(2, .int (v2 ||| ((1 : Int32) <<< (v3 &&& 31)))), (0, .ref v0), (1, .int v1), (3, .int v3)]) C rfl (by decide) rfl dX5_offspring_32 ?_
      refine zr_iinc (v := v3 + 1) (lv' := [(3, .int (v3 + 1)), (2, .int (v2 ||| ((1 : Int32) <<< (v3 &&& 31)))), (0, .ref v0), (1, .int v1)]) C 3 rfl rfl (by decide) rfl dX5_offspring_33 ?_
      refine zr_goto (tgt := 6) C (by decide) dX5_offspring_36 ?_
      obtain rfl := zso h
      refine zr_lv (lv' := [(0, .ref v0), (1, .int v1), (2, .int (v2 ||| ((1 : Int32) <<< (v3 &&& 31)))), (3, .int (v3 + 1))]) C [2, 3, 1, 0] rfl ?_
      exact hg _ rfl
set_option maxHeartbeats 4000000 in
set_option maxRecDepth 100000 in
theorem w_X5_offspring_6 (l : Launch) (D : va_G) (cy : Nat → ClassId) {L : List Nat} {K N : Nat → Nat} {F G : Nat → Nat → Nat} (hZ : ZL L K N F G) {p : Program} {e : Env} {R : Room} {s : State} {m : MethodId} {args : Array Value} {below : List Frame} {meth : Method} {c : Code} {cells slots : Nat} {Q : State → Prop} (C : ZC p s m args meth c cX5_offspring yX5_offspring.cls 4 D cy L K N F G) (hRf : 1 ≤ R.frames) (hRl : 21 ≤ R.locals) (hRc : cells ≤ R.cells ∧ slots ≤ R.slots)  (v0 : Nat) (v1 : Int32) (k0 : K v0 = 5) (I : zH) (A : zH) (n : Nat) (x : Int32 × Int32) (o : Int32 × Int32) (h : zIt (fun x => g_X5_offspring_6 F G v0 v1 x.1 x.2 I A) n x = some o)
    (hx : ZW p l e R s m args below meth c 4 D cy L K N F G cells slots Q I A 39 [(0, .ref v0), (1, .int v1), (2, .int o.1), (3, .int o.2)] []) : ZW p l e R s m args below meth c 4 D cy L K N F G cells slots Q I A 6 [(0, .ref v0), (1, .int v1), (2, .int x.1), (3, .int x.2)] [] := by
  induction n generalizing x with
  | zero => cases h
  | succ n ih =>
    unfold zIt at h
    cases hb : g_X5_offspring_6 F G v0 v1 x.1 x.2 I A with
    | none => rw [hb] at h; cases h
    | some q =>
      rw [hb] at h
      refine wb_X5_offspring_6 l D cy hZ C hRf hRl hRc v0 v1 k0 I A x.1 x.2 q hb (fun y hy => ?_) (fun y hy => ?_)
      · subst hy; exact ih y h
      · subst hy; cases h; exact hx
set_option maxHeartbeats 4000000 in
set_option maxRecDepth 100000 in
theorem c_X5_offspring (l : Launch) (D : va_G) (cy : Nat → ClassId) {L : List Nat} {K N : Nat → Nat} {F G : Nat → Nat → Nat} (hZ : ZL L K N F G) (h0 : Nat) (p0 : Int32) (k_h0 : K h0 = 5) (I A : zH) {r : Int32} (h : f_X5_offspring F G h0 p0 I A = some r) : ZMi l yX5_offspring cX5_offspring 4 (some .int) { frames := 1, cells := 0, slots := 0, locals := 21 } D cy L K N F G [.ref h0, .int p0] I A r I A := by
  refine ZMi.of (nL := 4) hZ rfl rfl (by decide) (Nat.le_of_ble_eq_true rfl) (fun p e s m args below meth c C hr => ?_)
  unfold f_X5_offspring at h
  refine zr_lv (lv' := [(0, .ref h0), (1, .int p0)]) C [0, 1] rfl ?_
  refine zr_iconst (v := 0) C (by decide) dX5_offspring_0 ?_
  refine zr_istore_n (lv' := [(2, .int 0), (0, .ref h0), (1, .int p0)]) C rfl (by decide) rfl dX5_offspring_1 ?_
  refine zr_iload_n C 2 rfl rfl dX5_offspring_2 ?_
  refine zr_iconst (v := 1) C (by decide) dX5_offspring_3 ?_
  refine zr_iadd C dX5_offspring_4 ?_
  refine zr_istore_n (lv' := [(3, .int (p0 + 1)), (2, .int 0), (0, .ref h0), (1, .int p0)]) C rfl (by decide) rfl dX5_offspring_5 ?_
  obtain ⟨i1, i2, h3, h⟩ := zb2_e h
  refine zr_lv (lv' := [(0, .ref h0), (1, .int p0), (2, .int 0), (3, .int (p0 + 1))]) C [2, 3, 1, 0] rfl ?_
  refine w_X5_offspring_6 l D cy hZ C (Nat.le_of_ble_eq_true rfl) (Nat.le_of_ble_eq_true rfl) ⟨Nat.le_of_ble_eq_true rfl, Nat.le_of_ble_eq_true rfl⟩ h0 p0 k_h0 I A 2000 (0, p0 + 1) (i1, i2) h3 ?_
  refine zr_iload_n C 2 rfl rfl dX5_offspring_39 ?_
  obtain rfl := zso h
  exact zr_iret C hr dX5_offspring_40

def g_X5_usesOf_4 (F G : Nat → Nat → Nat) (v0 : Nat) (v1 : Int32) (v2 : Int32) (v3 : Int32) (I : zH) (A : zH) : Option ((Int32 × Int32) ⊕ (Int32 × Int32)) :=
  if (I v0 10) ≤ v3 then (
    some (.inr (v2, v3))
  ) else (
    zck (¬ (v3 < 0 ∨ 5 ≤ v3.toNatClampNeg)) <|
    zb (f_X3_usesOf F G (G (F v0 5) v3.toNatClampNeg) v1 I A) fun r3 =>
    some (.inl (v2 + r3, v3 + 1))
  )
def f_X5_usesOf (F G : Nat → Nat → Nat) (h0 : Nat) (p0 : Int32) (I A : zH) : Option (Int32) :=
  zb2 (zIt (fun x => g_X5_usesOf_4 F G h0 p0 x.1 x.2 I A) 2000 (0, 0)) fun i1 i2 =>
  some i1
set_option maxHeartbeats 4000000 in
set_option maxRecDepth 100000 in
theorem wb_X5_usesOf_4 (l : Launch) (D : va_G) (cy : Nat → ClassId) {L : List Nat} {K N : Nat → Nat} {F G : Nat → Nat → Nat} (hZ : ZL L K N F G) {p : Program} {e : Env} {R : Room} {s : State} {m : MethodId} {args : Array Value} {below : List Frame} {meth : Method} {c : Code} {cells slots : Nat} {Q : State → Prop} (C : ZC p s m args meth c cX5_usesOf yX5_usesOf.cls 4 D cy L K N F G) (hRf : 2 ≤ R.frames) (hRl : 44 ≤ R.locals) (hRc : cells ≤ R.cells ∧ slots ≤ R.slots)  (v0 : Nat) (v1 : Int32) (k0 : K v0 = 5) (I : zH) (A : zH) (v2 : Int32) (v3 : Int32) (o : (Int32 × Int32) ⊕ (Int32 × Int32)) (h : g_X5_usesOf_4 F G v0 v1 v2 v3 I A = some o)
    (hg : ∀ y : Int32 × Int32, o = .inl y → ZW p l e R s m args below meth c 4 D cy L K N F G cells slots Q I A 4 [(0, .ref v0), (1, .int v1), (2, .int y.1), (3, .int y.2)] [])
    (hx : ∀ y : Int32 × Int32, o = .inr y → ZW p l e R s m args below meth c 4 D cy L K N F G cells slots Q I A 31 [(0, .ref v0), (1, .int v1), (2, .int y.1), (3, .int y.2)] []) : ZW p l e R s m args below meth c 4 D cy L K N F G cells slots Q I A 4 [(0, .ref v0), (1, .int v1), (2, .int v2), (3, .int v3)] [] := by
  unfold g_X5_usesOf_4 at h
  refine zr_iload_n C 3 rfl rfl dX5_usesOf_4 ?_
  refine zr_aload_n C 0 rfl rfl dX5_usesOf_5 ?_
  refine zr_get (ci := 5) (k := 10) (v := .int (I v0 10)) C k0 (by decide) rfl zinX5 (by decide) wd_168 rfl dX5_usesOf_6 ?_
  refine zr_icmp_ge (tgt := 31) C (by decide) dX5_usesOf_9 (fun hc1 => ?_) (fun hc1 => ?_)
  · have h := zif_t hc1 h
    obtain rfl := zso h
    refine zr_lv (lv' := [(0, .ref v0), (1, .int v1), (2, .int v2), (3, .int v3)]) C [0, 1, 2, 3] rfl ?_
    exact hx _ rfl
  · have h := zif_f hc1 h
    refine zr_iload_n C 2 rfl rfl dX5_usesOf_12 ?_
    refine zr_aload_n C 0 rfl rfl dX5_usesOf_13 ?_
    refine zr_get (ci := 5) (k := 5) (v := .ref (F v0 5)) C k0 (by decide) rfl zinX5 (by decide) wd_163 rfl dX5_usesOf_14 ?_
    refine zr_iload_n C 3 rfl rfl dX5_usesOf_17 ?_
    obtain ⟨hc2, h⟩ := zck_e h
    refine zr_ald9 C (zt55 hZ k0).1 (zt55 hZ k0).2 hc2 dX5_usesOf_18 ?_
    refine zr_iload_n C 1 rfl rfl dX5_usesOf_19 ?_
    obtain ⟨r3, h4, h⟩ := zb_e h
    refine zr_callVi (n := 1) (As := [.int v1]) C (c_X3_usesOf l D cy hZ (G (F v0 5) v3.toNatClampNeg) v1 (zt9 hZ (zt55 hZ k0).1 (z_ix (zt55 hZ k0).2 hc2)) I A h4) wd_397 wd_398 wd_399 wd_6 wd_400 (by decide +kernel) ⟨(Nat.le_trans (Nat.le_of_ble_eq_true rfl) hRf), (Nat.le_trans (Nat.le_of_ble_eq_true rfl) hRl)⟩ rfl rfl hRc (zt9 hZ (zt55 hZ k0).1 (z_ix (zt55 hZ k0).2 hc2)) (by decide) rfl rfl rfl (Nat.le_of_ble_eq_true rfl) dX5_usesOf_20 ?_
    refine zr_iadd C dX5_usesOf_23 ?_
    refine zr_istore_n (lv' := [(2, .int (v2 + r3)), (0, .ref v0), (1, .int v1), (3, .int v3)]) C rfl (by decide) rfl dX5_usesOf_24 ?_
    refine zr_iinc (v := v3 + 1) (lv' := [(3, .int (v3 + 1)), (2, .int (v2 + r3)), (0, .ref v0), (1, .int v1)]) C 3 rfl rfl (by decide) rfl dX5_usesOf_25 ?_
    refine zr_goto (tgt := 4) C (by decide) dX5_usesOf_28 ?_
    obtain rfl := zso h
    refine zr_lv (lv' := [(0, .ref v0), (1, .int v1), (2, .int (v2 + r3)), (3, .int (v3 + 1))]) C [2, 3, 1, 0] rfl ?_
    exact hg _ rfl
set_option maxHeartbeats 4000000 in
set_option maxRecDepth 100000 in
theorem w_X5_usesOf_4 (l : Launch) (D : va_G) (cy : Nat → ClassId) {L : List Nat} {K N : Nat → Nat} {F G : Nat → Nat → Nat} (hZ : ZL L K N F G) {p : Program} {e : Env} {R : Room} {s : State} {m : MethodId} {args : Array Value} {below : List Frame} {meth : Method} {c : Code} {cells slots : Nat} {Q : State → Prop} (C : ZC p s m args meth c cX5_usesOf yX5_usesOf.cls 4 D cy L K N F G) (hRf : 2 ≤ R.frames) (hRl : 44 ≤ R.locals) (hRc : cells ≤ R.cells ∧ slots ≤ R.slots)  (v0 : Nat) (v1 : Int32) (k0 : K v0 = 5) (I : zH) (A : zH) (n : Nat) (x : Int32 × Int32) (o : Int32 × Int32) (h : zIt (fun x => g_X5_usesOf_4 F G v0 v1 x.1 x.2 I A) n x = some o)
    (hx : ZW p l e R s m args below meth c 4 D cy L K N F G cells slots Q I A 31 [(0, .ref v0), (1, .int v1), (2, .int o.1), (3, .int o.2)] []) : ZW p l e R s m args below meth c 4 D cy L K N F G cells slots Q I A 4 [(0, .ref v0), (1, .int v1), (2, .int x.1), (3, .int x.2)] [] := by
  induction n generalizing x with
  | zero => cases h
  | succ n ih =>
    unfold zIt at h
    cases hb : g_X5_usesOf_4 F G v0 v1 x.1 x.2 I A with
    | none => rw [hb] at h; cases h
    | some q =>
      rw [hb] at h
      refine wb_X5_usesOf_4 l D cy hZ C hRf hRl hRc v0 v1 k0 I A x.1 x.2 q hb (fun y hy => ?_) (fun y hy => ?_)
      · subst hy; exact ih y h
      · subst hy; cases h; exact hx
set_option maxHeartbeats 4000000 in
set_option maxRecDepth 100000 in
theorem c_X5_usesOf (l : Launch) (D : va_G) (cy : Nat → ClassId) {L : List Nat} {K N : Nat → Nat} {F G : Nat → Nat → Nat} (hZ : ZL L K N F G) (h0 : Nat) (p0 : Int32) (k_h0 : K h0 = 5) (I A : zH) {r : Int32} (h : f_X5_usesOf F G h0 p0 I A = some r) : ZMi l yX5_usesOf cX5_usesOf 4 (some .int) { frames := 2, cells := 0, slots := 0, locals := 44 } D cy L K N F G [.ref h0, .int p0] I A r I A := by
  refine ZMi.of (nL := 4) hZ rfl rfl (by decide) (Nat.le_of_ble_eq_true rfl) (fun p e s m args below meth c C hr => ?_)
  unfold f_X5_usesOf at h
  refine zr_lv (lv' := [(0, .ref h0), (1, .int p0)]) C [0, 1] rfl ?_
  refine zr_iconst (v := 0) C (by decide) dX5_usesOf_0 ?_
  refine zr_istore_n (lv' := [(2, .int 0), (0, .ref h0), (1, .int p0)]) C rfl (by decide) rfl dX5_usesOf_1 ?_
  refine zr_iconst (v := 0) C (by decide) dX5_usesOf_2 ?_
  refine zr_istore_n (lv' := [(3, .int 0), (2, .int 0), (0, .ref h0), (1, .int p0)]) C rfl (by decide) rfl dX5_usesOf_3 ?_
  obtain ⟨i1, i2, h3, h⟩ := zb2_e h
  refine zr_lv (lv' := [(0, .ref h0), (1, .int p0), (2, .int 0), (3, .int 0)]) C [2, 3, 1, 0] rfl ?_
  refine w_X5_usesOf_4 l D cy hZ C (Nat.le_of_ble_eq_true rfl) (Nat.le_of_ble_eq_true rfl) ⟨Nat.le_of_ble_eq_true rfl, Nat.le_of_ble_eq_true rfl⟩ h0 p0 k_h0 I A 2000 (0, 0) (i1, i2) h3 ?_
  refine zr_iload_n C 2 rfl rfl dX5_usesOf_31 ?_
  obtain rfl := zso h
  exact zr_iret C hr dX5_usesOf_32

def f_X5_ofPiece (F G : Nat → Nat → Nat) (h0 : Nat) (p0 : Int32) (p1 : Int32) (I A : zH) : Option (Int32) :=
  zb (f_X5_needPiece F G h0 p0 I A) fun _ =>
  zck (¬ (p0 < 0 ∨ 16 ≤ p0.toNatClampNeg)) <|
  if p1 = 0 then (
    some (I (F (G (F h0 1) p0.toNatClampNeg) 0) 2)
  ) else (
  if p1 = 1 then (
    some (I (F (G (F h0 1) p0.toNatClampNeg) 0) 3)
  ) else (
  if p1 = 2 then (
    some (I (G (F h0 1) p0.toNatClampNeg) 1)
  ) else (
  if p1 = 3 then (
    zb (f_X0_licencesOf F G (F h0 6) p0 I A) fun r8 =>
    some r8
  ) else (
  if p1 = 4 then (
    some (I (G (F h0 1) p0.toNatClampNeg) 2)
  ) else (
  if p1 = 5 then (
    zck (¬ (p0 < 0 ∨ 16 ≤ p0.toNatClampNeg)) <|
    some (A (F h0 3) p0.toNatClampNeg)
  ) else (
  if p1 = 6 then (
    zb (f_X5_offspring F G h0 p0 I A) fun r15 =>
    some r15
  ) else (
  if p1 = 7 then (
    zb (f_X5_usesOf F G h0 p0 I A) fun r19 =>
    some r19
  ) else (
    none
  ))))))))
set_option maxHeartbeats 4000000 in
set_option maxRecDepth 100000 in
theorem c_X5_ofPiece (l : Launch) (D : va_G) (cy : Nat → ClassId) {L : List Nat} {K N : Nat → Nat} {F G : Nat → Nat → Nat} (hZ : ZL L K N F G) (h0 : Nat) (p0 : Int32) (p1 : Int32) (k_h0 : K h0 = 5) (I A : zH) {r : Int32} (h : f_X5_ofPiece F G h0 p0 p1 I A = some r) : ZMi l yX5_ofPiece cX5_ofPiece 4 (some .int) { frames := 3, cells := 0, slots := 0, locals := 67 } D cy L K N F G [.ref h0, .int p0, .int p1] I A r I A := by
  refine ZMi.of (nL := 4) hZ rfl rfl (by decide) (Nat.le_of_ble_eq_true rfl) (fun p e s m args below meth c C hr => ?_)
  unfold f_X5_ofPiece at h
  refine zr_lv (lv' := [(0, .ref h0), (1, .int p0), (2, .int p1)]) C [0, 1, 2] rfl ?_
  refine zr_aload_n C 0 rfl rfl dX5_ofPiece_0 ?_
  refine zr_iload_n C 1 rfl rfl dX5_ofPiece_1 ?_
  obtain ⟨_, h1, h⟩ := zb_e h
  refine zr_callVv (n := 1) (As := [.int p0]) C (c_X5_needPiece l D cy hZ h0 p0 k_h0 I A h1) wd_368 wd_370 wp_10 wd_1 wd_371 (by decide +kernel) ⟨(Nat.le_of_ble_eq_true rfl), (Nat.le_of_ble_eq_true rfl)⟩ rfl rfl ⟨Nat.le_of_ble_eq_true rfl, Nat.le_of_ble_eq_true rfl⟩ k_h0 (by decide) rfl rfl rfl (Nat.le_of_ble_eq_true rfl) dX5_ofPiece_2 ?_
  refine zr_aload_n C 0 rfl rfl dX5_ofPiece_5 ?_
  refine zr_get (ci := 5) (k := 1) (v := .ref (F h0 1)) C k_h0 (by decide) rfl zinX5 (by decide) wd_159 rfl dX5_ofPiece_6 ?_
  refine zr_iload_n C 1 rfl rfl dX5_ofPiece_9 ?_
  obtain ⟨hc3, h⟩ := zck_e h
  refine zr_ald8 C (zt51 hZ k_h0).1 (zt51 hZ k_h0).2 hc3 dX5_ofPiece_10 ?_
  refine zr_astore_n (lv' := [(3, .ref (G (F h0 1) p0.toNatClampNeg)), (0, .ref h0), (1, .int p0), (2, .int p1)]) C rfl (by decide) rfl dX5_ofPiece_11 ?_
  refine zr_iload_n C 3 rfl rfl dX5_ofPiece_12 ?_
  by_cases hc4 : p1 = 0
  · have h := zif_t hc4 h
    refine zr_tableIn (off := 47) (tgt := 60) C (by rw [hc4]; decide) (by rw [hc4]; decide) (by rw [hc4]; decide) (by decide) dX5_ofPiece_13 ?_
    refine zr_aload_n C 0 rfl rfl dX5_ofPiece_60 ?_
    refine zr_get (ci := 2) (k := 0) (v := .ref (F (G (F h0 1) p0.toNatClampNeg) 0)) C (zt8 hZ (zt51 hZ k_h0).1 (z_ix (zt51 hZ k_h0).2 hc3)) (by decide) rfl zinX2 (by decide) wd_80 rfl dX5_ofPiece_61 ?_
    refine zr_get (ci := 4) (k := 2) (v := .int (I (F (G (F h0 1) p0.toNatClampNeg) 0) 2)) C (zt2 hZ (zt8 hZ (zt51 hZ k_h0).1 (z_ix (zt51 hZ k_h0).2 hc3))) (by decide) rfl zinX4 (by decide) wd_32 rfl dX5_ofPiece_64 ?_
    obtain rfl := zso h
    exact zr_iret C hr dX5_ofPiece_67
  have h := zif_f hc4 h
  by_cases hc5 : p1 = 1
  · have h := zif_t hc5 h
    refine zr_tableIn (off := 55) (tgt := 68) C (by rw [hc5]; decide) (by rw [hc5]; decide) (by rw [hc5]; decide) (by decide) dX5_ofPiece_13 ?_
    refine zr_aload_n C 0 rfl rfl dX5_ofPiece_68 ?_
    refine zr_get (ci := 2) (k := 0) (v := .ref (F (G (F h0 1) p0.toNatClampNeg) 0)) C (zt8 hZ (zt51 hZ k_h0).1 (z_ix (zt51 hZ k_h0).2 hc3)) (by decide) rfl zinX2 (by decide) wd_80 rfl dX5_ofPiece_69 ?_
    refine zr_get (ci := 4) (k := 3) (v := .int (I (F (G (F h0 1) p0.toNatClampNeg) 0) 3)) C (zt2 hZ (zt8 hZ (zt51 hZ k_h0).1 (z_ix (zt51 hZ k_h0).2 hc3))) (by decide) rfl zinX4 (by decide) wd_34 rfl dX5_ofPiece_72 ?_
    obtain rfl := zso h
    exact zr_iret C hr dX5_ofPiece_75
  have h := zif_f hc5 h
  by_cases hc6 : p1 = 2
  · have h := zif_t hc6 h
    refine zr_tableIn (off := 63) (tgt := 76) C (by rw [hc6]; decide) (by rw [hc6]; decide) (by rw [hc6]; decide) (by decide) dX5_ofPiece_13 ?_
    refine zr_aload_n C 0 rfl rfl dX5_ofPiece_76 ?_
    refine zr_get (ci := 2) (k := 1) (v := .int (I (G (F h0 1) p0.toNatClampNeg) 1)) C (zt8 hZ (zt51 hZ k_h0).1 (z_ix (zt51 hZ k_h0).2 hc3)) (by decide) rfl zinX2 (by decide) wd_82 rfl dX5_ofPiece_77 ?_
    obtain rfl := zso h
    exact zr_iret C hr dX5_ofPiece_80
  have h := zif_f hc6 h
  by_cases hc7 : p1 = 3
  · have h := zif_t hc7 h
    refine zr_tableIn (off := 68) (tgt := 81) C (by rw [hc7]; decide) (by rw [hc7]; decide) (by rw [hc7]; decide) (by decide) dX5_ofPiece_13 ?_
    refine zr_aload_n C 1 rfl rfl dX5_ofPiece_81 ?_
    refine zr_get (ci := 5) (k := 6) (v := .ref (F h0 6)) C k_h0 (by decide) rfl zinX5 (by decide) wd_164 rfl dX5_ofPiece_82 ?_
    refine zr_iload_n C 2 rfl rfl dX5_ofPiece_85 ?_
    obtain ⟨r8, h9, h⟩ := zb_e h
    refine zr_callVi (n := 1) (As := [.int p0]) C (c_X0_licencesOf l D cy hZ (F h0 6) p0 (zt56 hZ k_h0) I A h9) wd_314 wd_315 wd_316 wd_3 wd_317 (by decide +kernel) ⟨(Nat.le_of_ble_eq_true rfl), (Nat.le_of_ble_eq_true rfl)⟩ rfl rfl ⟨Nat.le_of_ble_eq_true rfl, Nat.le_of_ble_eq_true rfl⟩ (zt56 hZ k_h0) (by decide) rfl rfl rfl (Nat.le_of_ble_eq_true rfl) dX5_ofPiece_86 ?_
    obtain rfl := zso h
    exact zr_iret C hr dX5_ofPiece_89
  have h := zif_f hc7 h
  by_cases hc11 : p1 = 4
  · have h := zif_t hc11 h
    refine zr_tableIn (off := 77) (tgt := 90) C (by rw [hc11]; decide) (by rw [hc11]; decide) (by rw [hc11]; decide) (by decide) dX5_ofPiece_13 ?_
    refine zr_aload_n C 0 rfl rfl dX5_ofPiece_90 ?_
    refine zr_get (ci := 2) (k := 2) (v := .int (I (G (F h0 1) p0.toNatClampNeg) 2)) C (zt8 hZ (zt51 hZ k_h0).1 (z_ix (zt51 hZ k_h0).2 hc3)) (by decide) rfl zinX2 (by decide) wd_84 rfl dX5_ofPiece_91 ?_
    obtain rfl := zso h
    exact zr_iret C hr dX5_ofPiece_94
  have h := zif_f hc11 h
  by_cases hc12 : p1 = 5
  · have h := zif_t hc12 h
    refine zr_tableIn (off := 82) (tgt := 95) C (by rw [hc12]; decide) (by rw [hc12]; decide) (by rw [hc12]; decide) (by decide) dX5_ofPiece_13 ?_
    refine zr_aload_n C 1 rfl rfl dX5_ofPiece_95 ?_
    refine zr_get (ci := 5) (k := 3) (v := .ref (F h0 3)) C k_h0 (by decide) rfl zinX5 (by decide) wd_161 rfl dX5_ofPiece_96 ?_
    refine zr_iload_n C 2 rfl rfl dX5_ofPiece_99 ?_
    obtain ⟨hc13, h⟩ := zck_e h
    refine zr_iald C (zt53 hZ k_h0).1 (zt53 hZ k_h0).2 hc13 dX5_ofPiece_100 ?_
    obtain rfl := zso h
    exact zr_iret C hr dX5_ofPiece_101
  have h := zif_f hc12 h
  by_cases hc14 : p1 = 6
  · have h := zif_t hc14 h
    refine zr_tableIn (off := 89) (tgt := 102) C (by rw [hc14]; decide) (by rw [hc14]; decide) (by rw [hc14]; decide) (by decide) dX5_ofPiece_13 ?_
    refine zr_aload_n C 1 rfl rfl dX5_ofPiece_102 ?_
    refine zr_iload_n C 2 rfl rfl dX5_ofPiece_103 ?_
    obtain ⟨r15, h16, h⟩ := zb_e h
    refine zr_callVi (n := 1) (As := [.int p0]) C (c_X5_offspring l D cy hZ h0 p0 k_h0 I A h16) wd_388 wd_390 wp_11 wd_1 wd_391 (by decide +kernel) ⟨(Nat.le_of_ble_eq_true rfl), (Nat.le_of_ble_eq_true rfl)⟩ rfl rfl ⟨Nat.le_of_ble_eq_true rfl, Nat.le_of_ble_eq_true rfl⟩ k_h0 (by decide) rfl rfl rfl (Nat.le_of_ble_eq_true rfl) dX5_ofPiece_104 ?_
    obtain rfl := zso h
    exact zr_iret C hr dX5_ofPiece_107
  have h := zif_f hc14 h
  by_cases hc18 : p1 = 7
  · have h := zif_t hc18 h
    refine zr_tableIn (off := 95) (tgt := 108) C (by rw [hc18]; decide) (by rw [hc18]; decide) (by rw [hc18]; decide) (by decide) dX5_ofPiece_13 ?_
    refine zr_aload_n C 1 rfl rfl dX5_ofPiece_108 ?_
    refine zr_iload_n C 2 rfl rfl dX5_ofPiece_109 ?_
    obtain ⟨r19, h20, h⟩ := zb_e h
    refine zr_callVi (n := 1) (As := [.int p0]) C (c_X5_usesOf l D cy hZ h0 p0 k_h0 I A h20) wd_393 wd_395 wp_12 wd_1 wd_396 (by decide +kernel) ⟨(Nat.le_of_ble_eq_true rfl), (Nat.le_of_ble_eq_true rfl)⟩ rfl rfl ⟨Nat.le_of_ble_eq_true rfl, Nat.le_of_ble_eq_true rfl⟩ k_h0 (by decide) rfl rfl rfl (Nat.le_of_ble_eq_true rfl) dX5_ofPiece_110 ?_
    obtain rfl := zso h
    exact zr_iret C hr dX5_ofPiece_113
  have h := zif_f hc18 h
  refine zr_tableOut (tgt := 114) C (zsw_0_7 hc4 hc5 hc6 hc7 hc11 hc12 hc14 hc18) (by decide) dX5_ofPiece_13 ?_
  exact zno h

def f_X5_scan (F G : Nat → Nat → Nat) (h0 : Nat) (p0 : Int32) (I A : zH) : Option (Int32) :=
  zb (f_X5_needPiece F G h0 p0 I A) fun _ =>
  zck (¬ (p0 < 0 ∨ 16 ≤ p0.toNatClampNeg)) <|
  zb (f_X4_shareWith F G (F h0 0) (F (G (F h0 1) p0.toNatClampNeg) 0) I A) fun r4 =>
  some r4
set_option maxHeartbeats 4000000 in
set_option maxRecDepth 100000 in
theorem c_X5_scan (l : Launch) (D : va_G) (cy : Nat → ClassId) {L : List Nat} {K N : Nat → Nat} {F G : Nat → Nat → Nat} (hZ : ZL L K N F G) (h0 : Nat) (p0 : Int32) (k_h0 : K h0 = 5) (I A : zH) {r : Int32} (h : f_X5_scan F G h0 p0 I A = some r) : ZMi l yX5_scan cX5_scan 2 (some .int) { frames := 2, cells := 0, slots := 0, locals := 46 } D cy L K N F G [.ref h0, .int p0] I A r I A := by
  refine ZMi.of (nL := 2) hZ rfl rfl (by decide) (Nat.le_of_ble_eq_true rfl) (fun p e s m args below meth c C hr => ?_)
  unfold f_X5_scan at h
  refine zr_lv (lv' := [(0, .ref h0), (1, .int p0)]) C [0, 1] rfl ?_
  refine zr_aload_n C 0 rfl rfl dX5_scan_0 ?_
  refine zr_iload_n C 1 rfl rfl dX5_scan_1 ?_
  obtain ⟨_, h1, h⟩ := zb_e h
  refine zr_callVv (n := 1) (As := [.int p0]) C (c_X5_needPiece l D cy hZ h0 p0 k_h0 I A h1) wd_368 wd_370 wp_10 wd_1 wd_371 (by decide +kernel) ⟨(Nat.le_of_ble_eq_true rfl), (Nat.le_of_ble_eq_true rfl)⟩ rfl rfl ⟨Nat.le_of_ble_eq_true rfl, Nat.le_of_ble_eq_true rfl⟩ k_h0 (by decide) rfl rfl rfl (Nat.le_of_ble_eq_true rfl) dX5_scan_2 ?_
  refine zr_aload_n C 0 rfl rfl dX5_scan_5 ?_
  refine zr_get (ci := 5) (k := 0) (v := .ref (F h0 0)) C k_h0 (by decide) rfl zinX5 (by decide) wd_158 rfl dX5_scan_6 ?_
  refine zr_aload_n C 0 rfl rfl dX5_scan_9 ?_
  refine zr_get (ci := 5) (k := 1) (v := .ref (F h0 1)) C k_h0 (by decide) rfl zinX5 (by decide) wd_159 rfl dX5_scan_10 ?_
  refine zr_iload_n C 1 rfl rfl dX5_scan_13 ?_
  obtain ⟨hc3, h⟩ := zck_e h
  refine zr_ald8 C (zt51 hZ k_h0).1 (zt51 hZ k_h0).2 hc3 dX5_scan_14 ?_
  refine zr_get (ci := 2) (k := 0) (v := .ref (F (G (F h0 1) p0.toNatClampNeg) 0)) C (zt8 hZ (zt51 hZ k_h0).1 (z_ix (zt51 hZ k_h0).2 hc3)) (by decide) rfl zinX2 (by decide) wd_80 rfl dX5_scan_15 ?_
  obtain ⟨r4, h5, h⟩ := zb_e h
  refine zr_callVi (n := 1) (As := [.ref (F (G (F h0 1) p0.toNatClampNeg) 0)]) C (c_X4_shareWith l D cy hZ (F h0 0) (F (G (F h0 1) p0.toNatClampNeg) 0) (zt50 hZ k_h0) (zt2 hZ (zt8 hZ (zt51 hZ k_h0).1 (z_ix (zt51 hZ k_h0).2 hc3))) I A h5) wd_295 wd_296 wd_297 wd_2 wd_298 (by decide +kernel) ⟨(Nat.le_of_ble_eq_true rfl), (Nat.le_of_ble_eq_true rfl)⟩ rfl rfl ⟨Nat.le_of_ble_eq_true rfl, Nat.le_of_ble_eq_true rfl⟩ (zt50 hZ k_h0) (by decide) rfl rfl rfl (Nat.le_of_ble_eq_true rfl) dX5_scan_18 ?_
  obtain rfl := zso h
  exact zr_iret C hr dX5_scan_21

def f_X5_share (F G : Nat → Nat → Nat) (h0 : Nat) (p0 : Int32) (p1 : Int32) (I A : zH) : Option (Int32) :=
  zb (f_X5_needPiece F G h0 p0 I A) fun _ =>
  zb (f_X5_needPiece F G h0 p1 I A) fun _ =>
  zck (¬ (p0 < 0 ∨ 16 ≤ p0.toNatClampNeg)) <|
  zck (¬ (p1 < 0 ∨ 16 ≤ p1.toNatClampNeg)) <|
  some (A (G (F h0 2) p0.toNatClampNeg) p1.toNatClampNeg)
set_option maxHeartbeats 4000000 in
set_option maxRecDepth 100000 in
theorem c_X5_share (l : Launch) (D : va_G) (cy : Nat → ClassId) {L : List Nat} {K N : Nat → Nat} {F G : Nat → Nat → Nat} (hZ : ZL L K N F G) (h0 : Nat) (p0 : Int32) (p1 : Int32) (k_h0 : K h0 = 5) (I A : zH) {r : Int32} (h : f_X5_share F G h0 p0 p1 I A = some r) : ZMi l yX5_share cX5_share 3 (some .int) { frames := 1, cells := 0, slots := 0, locals := 21 } D cy L K N F G [.ref h0, .int p0, .int p1] I A r I A := by
  refine ZMi.of (nL := 3) hZ rfl rfl (by decide) (Nat.le_of_ble_eq_true rfl) (fun p e s m args below meth c C hr => ?_)
  unfold f_X5_share at h
  refine zr_lv (lv' := [(0, .ref h0), (1, .int p0), (2, .int p1)]) C [0, 1, 2] rfl ?_
  refine zr_aload_n C 0 rfl rfl dX5_share_0 ?_
  refine zr_iload_n C 1 rfl rfl dX5_share_1 ?_
  obtain ⟨_, h1, h⟩ := zb_e h
  refine zr_callVv (n := 1) (As := [.int p0]) C (c_X5_needPiece l D cy hZ h0 p0 k_h0 I A h1) wd_368 wd_370 wp_10 wd_1 wd_371 (by decide +kernel) ⟨(Nat.le_of_ble_eq_true rfl), (Nat.le_of_ble_eq_true rfl)⟩ rfl rfl ⟨Nat.le_of_ble_eq_true rfl, Nat.le_of_ble_eq_true rfl⟩ k_h0 (by decide) rfl rfl rfl (Nat.le_of_ble_eq_true rfl) dX5_share_2 ?_
  refine zr_aload_n C 0 rfl rfl dX5_share_5 ?_
  refine zr_iload_n C 2 rfl rfl dX5_share_6 ?_
  obtain ⟨_, h3, h⟩ := zb_e h
  refine zr_callVv (n := 1) (As := [.int p1]) C (c_X5_needPiece l D cy hZ h0 p1 k_h0 I A h3) wd_368 wd_370 wp_10 wd_1 wd_371 (by decide +kernel) ⟨(Nat.le_of_ble_eq_true rfl), (Nat.le_of_ble_eq_true rfl)⟩ rfl rfl ⟨Nat.le_of_ble_eq_true rfl, Nat.le_of_ble_eq_true rfl⟩ k_h0 (by decide) rfl rfl rfl (Nat.le_of_ble_eq_true rfl) dX5_share_7 ?_
  refine zr_aload_n C 0 rfl rfl dX5_share_10 ?_
  refine zr_get (ci := 5) (k := 2) (v := .ref (F h0 2)) C k_h0 (by decide) rfl zinX5 (by decide) wd_160 rfl dX5_share_11 ?_
  refine zr_iload_n C 1 rfl rfl dX5_share_14 ?_
  obtain ⟨hc5, h⟩ := zck_e h
  refine zr_ald10 C (zt52 hZ k_h0).1 (zt52 hZ k_h0).2 hc5 dX5_share_15 ?_
  refine zr_iload_n C 2 rfl rfl dX5_share_16 ?_
  obtain ⟨hc6, h⟩ := zck_e h
  refine zr_iald C (zt10 hZ (zt52 hZ k_h0).1 (z_ix (zt52 hZ k_h0).2 hc5)).1 (zt10 hZ (zt52 hZ k_h0).1 (z_ix (zt52 hZ k_h0).2 hc5)).2 hc6 dX5_share_17 ?_
  obtain rfl := zso h
  exact zr_iret C hr dX5_share_18

