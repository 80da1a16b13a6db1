def g_X3_fewestToEmpty_11 (F G : Nat → Nat → Nat) (v0 : Nat) (v2 : Int32) (v3 : Int32) (v4 : Int32) (I : zH) (A : zH) : Option ((Int32 × Int32) ⊕ (Int32 × Int32)) :=
  if v2 ≤ v4 then (
    some (.inr (v3, v4))
  ) else (
    if (v4 &&& (v2 ^^^ (-1))) = 0 then (
      zb (f_J6_bitCount_0f7a4 F G v4 I A) fun r3 =>
      zb (f_J6_bitCount_0f7a4 F G v3 I A) fun r6 =>
      if r6 ≤ r3 then (
        some (.inl (v3, v4 + 1))
      ) else (
        zb (f_X3_leavesNone F G v0 v4 I A) fun r10 =>
        if r10 = 0 then (
          some (.inl (v3, v4 + 1))
        ) else (
          some (.inl (v4, v4 + 1))
        )
      )
    ) else (
      some (.inl (v3, v4 + 1))
    )
  )
def f_X3_fewestToEmpty (F G : Nat → Nat → Nat) (h0 : Nat) (r0 : Nat) (I A : zH) : Option (Int32 × zH) :=
  zb2 (f_X3_takeClashes F G h0 r0 I A) fun r1 A2 =>
  zb2 (zIt (fun x => g_X3_fewestToEmpty_11 F G h0 r1 x.1 x.2 I A2) 2000 (r1, 0)) fun i5 i6 =>
  some (i5, A2)
set_option maxHeartbeats 4000000 in
set_option maxRecDepth 100000 in
theorem wb_X3_fewestToEmpty_11 (l : Launch) (D : va_G) (cy : Nat → ClassId) {L : List Nat} {K N : Nat → Nat} {F G : Nat → Nat → Nat} (hZ : ZL L K N F G) {p : Program} {e : Env} {R : Room} {s : State} {m : MethodId} {args : Array Value} {below : List Frame} {meth : Method} {c : Code} {cells slots : Nat} {Q : State → Prop} (C : ZC p s m args meth c cX3_fewestToEmpty yX3_fewestToEmpty.cls 6 D cy L K N F G) (hRf : 2 ≤ R.frames) (hRl : 43 ≤ R.locals) (hRc : cells ≤ R.cells ∧ slots ≤ R.slots)  (v0 : Nat) (v2 : Int32) (k0 : K v0 = 3) (I : zH) (A : zH) (v3 : Int32) (v4 : Int32) (o : (Int32 × Int32) ⊕ (Int32 × Int32)) (h : g_X3_fewestToEmpty_11 F G v0 v2 v3 v4 I A = some o)
    (hg : ∀ y : Int32 × Int32, o = .inl y → ZW p l e R s m args below meth c 6 D cy L K N F G cells slots Q I A 11 [(0, .ref v0), (2, .int v2), (3, .int y.1), (4, .int y.2)] [])
    (hx : ∀ y : Int32 × Int32, o = .inr y → ZW p l e R s m args below meth c 6 D cy L K N F G cells slots Q I A 68 [(0, .ref v0), (2, .int v2), (3, .int y.1), (4, .int y.2)] []) : ZW p l e R s m args below meth c 6 D cy L K N F G cells slots Q I A 11 [(0, .ref v0), (2, .int v2), (3, .int v3), (4, .int v4)] [] := by
  unfold g_X3_fewestToEmpty_11 at h
  refine zr_iload C 3 rfl dX3_fewestToEmpty_11 ?_
  refine zr_iload_n C 1 rfl rfl dX3_fewestToEmpty_13 ?_
  refine zr_icmp_ge (tgt := 68) C (by decide) dX3_fewestToEmpty_14 (fun hc1 => ?_) (fun hc1 => ?_)
  · have h := zif_t hc1 h
    obtain rfl := zso h
    refine zr_lv (lv' := [(0, .ref v0), (2, .int v2), (3, .int v3), (4, .int v4)]) C [0, 1, 2, 3] rfl ?_
    exact hx _ rfl
  · have h := zif_f hc1 h
    refine zr_iload C 3 rfl dX3_fewestToEmpty_17 ?_
    refine zr_iload_n C 1 rfl rfl dX3_fewestToEmpty_19 ?_
    refine zr_iconst (v := (-1)) C (by decide) dX3_fewestToEmpty_20 ?_
    refine zr_ixor C dX3_fewestToEmpty_21 ?_
    refine zr_iand C dX3_fewestToEmpty_22 ?_
    refine zr_if_ne (tgt := 30) C (by decide) dX3_fewestToEmpty_23 (fun hc2 => ?_) (fun hc2 => ?_)
    · have h := zif_f hc2 h
      refine zr_iconst (v := 0) C (by decide) dX3_fewestToEmpty_30 ?_
      refine zr_istore (lv' := [(5, .int 0), (0, .ref v0), (2, .int v2), (3, .int v3), (4, .int v4)]) C (by decide) rfl dX3_fewestToEmpty_31 ?_
      refine zr_iload C 0 rfl dX3_fewestToEmpty_33 ?_
      refine zr_if_eq (tgt := 62) C (by decide) dX3_fewestToEmpty_35 (fun _ => ?_) (fun hc => absurd hc (by decide))
      refine zr_iinc (v := v4 + 1) (lv' := [(4, .int (v4 + 1)), (5, .int 0), (0, .ref v0), (2, .int v2), (3, .int v3)]) C 4 rfl rfl (by decide) rfl dX3_fewestToEmpty_62 ?_
      refine zr_goto (tgt := 11) C (by decide) dX3_fewestToEmpty_65 ?_
      obtain rfl := zso h
      refine zr_lv (lv' := [(0, .ref v0), (2, .int v2), (3, .int v3), (4, .int (v4 + 1))]) C [2, 3, 4, 0] rfl ?_
      exact hg _ rfl
    · have h := zif_t hc2 h
      refine zr_iconst (v := 1) C (by decide) dX3_fewestToEmpty_26 ?_
      refine zr_goto (tgt := 31) C (by decide) dX3_fewestToEmpty_27 ?_
      refine zr_istore (lv' := [(5, .int 1), (0, .ref v0), (2, .int v2), (3, .int v3), (4, .int v4)]) C (by decide) rfl dX3_fewestToEmpty_31 ?_
      refine zr_iload C 0 rfl dX3_fewestToEmpty_33 ?_
      refine zr_if_eq (tgt := 62) C (by decide) dX3_fewestToEmpty_35 (fun hc => absurd hc (by decide)) (fun _ => ?_)
      refine zr_iload C 4 rfl dX3_fewestToEmpty_38 ?_
      obtain ⟨r3, h4, h⟩ := zb_e h
      refine zr_callSi (n := 1) (As := [.int v4]) C (c_J6_bitCount_0f7a4 l D cy hZ v4 I A h4) wd_358 wd_359 wd_12 wd_360 (by decide +kernel) ⟨(Nat.le_trans (Nat.le_of_ble_eq_true rfl) hRf), (Nat.le_trans (Nat.le_of_ble_eq_true rfl) hRl)⟩ rfl rfl hRc rfl rfl (Nat.le_of_ble_eq_true rfl) dX3_fewestToEmpty_40 ?_
      refine zr_iload_n C 3 rfl rfl dX3_fewestToEmpty_43 ?_
      obtain ⟨r6, h7, h⟩ := zb_e h
      refine zr_callSi (n := 1) (As := [.int v3]) C (c_J6_bitCount_0f7a4 l D cy hZ v3 I A h7) wd_358 wd_359 wd_12 wd_360 (by decide +kernel) ⟨(Nat.le_trans (Nat.le_of_ble_eq_true rfl) hRf), (Nat.le_trans (Nat.le_of_ble_eq_true rfl) hRl)⟩ rfl rfl hRc rfl rfl (Nat.le_of_ble_eq_true rfl) dX3_fewestToEmpty_44 ?_
      refine zr_icmp_ge (tgt := 62) C (by decide) dX3_fewestToEmpty_47 (fun hc9 => ?_) (fun hc9 => ?_)
      · have h := zif_t hc9 h
        refine zr_iinc (v := v4 + 1) (lv' := [(4, .int (v4 + 1)), (5, .int 1), (0, .ref v0), (2, .int v2), (3, .int v3)]) C 4 rfl rfl (by decide) rfl dX3_fewestToEmpty_62 ?_
        refine zr_goto (tgt := 11) C (by decide) dX3_fewestToEmpty_65 ?_
        obtain rfl := zso h
        refine zr_lv (lv' := [(0, .ref v0), (2, .int v2), (3, .int v3), (4, .int (v4 + 1))]) C [2, 3, 4, 0] rfl ?_
        exact hg _ rfl
      · have h := zif_f hc9 h
        refine zr_aload_n C 1 rfl rfl dX3_fewestToEmpty_50 ?_
        refine zr_iload C 4 rfl dX3_fewestToEmpty_51 ?_
        obtain ⟨r10, h11, h⟩ := zb_e h
        refine zr_callVi (n := 1) (As := [.int v4]) C (c_X3_leavesNone l D cy hZ v0 v4 k0 I A h11) wd_582 wd_584 wp_22 wd_6 wd_585 (by decide +kernel) ⟨(Nat.le_trans (Nat.le_of_ble_eq_true rfl) hRf), (Nat.le_trans (Nat.le_of_ble_eq_true rfl) hRl)⟩ rfl rfl hRc k0 (by decide) rfl rfl rfl (Nat.le_of_ble_eq_true rfl) dX3_fewestToEmpty_53 ?_
        refine zr_if_eq (tgt := 62) C (by decide) dX3_fewestToEmpty_56 (fun hc13 => ?_) (fun hc13 => ?_)
        · have h := zif_t hc13 h
          refine zr_iinc (v := v4 + 1) (lv' := [(4, .int (v4 + 1)), (5, .int 1), (0, .ref v0), (2, .int v2), (3, .int v3)]) C 4 rfl rfl (by decide) rfl dX3_fewestToEmpty_62 ?_
          refine zr_goto (tgt := 11) C (by decide) dX3_fewestToEmpty_65 ?_
          obtain rfl := zso h
          refine zr_lv (lv' := [(0, .ref v0), (2, .int v2), (3, .int v3), (4, .int (v4 + 1))]) C [2, 3, 4, 0] rfl ?_
          exact hg _ rfl
        · have h := zif_f hc13 h
          refine zr_iload C 4 rfl dX3_fewestToEmpty_59 ?_
          refine zr_istore_n (lv' := [(3, .int v4), (5, .int 1), (0, .ref v0), (2, .int v2), (4, .int v4)]) C rfl (by decide) rfl dX3_fewestToEmpty_61 ?_
          refine zr_iinc (v := v4 + 1) (lv' := [(4, .int (v4 + 1)), (3, .int v4), (5, .int 1), (0, .ref v0), (2, .int v2)]) C 4 rfl rfl (by decide) rfl dX3_fewestToEmpty_62 ?_
          refine zr_goto (tgt := 11) C (by decide) dX3_fewestToEmpty_65 ?_
          obtain rfl := zso h
          refine zr_lv (lv' := [(0, .ref v0), (2, .int v2), (3, .int v4), (4, .int (v4 + 1))]) C [3, 4, 1, 0] rfl ?_
          exact hg _ rfl
set_option maxHeartbeats 4000000 in
set_option maxRecDepth 100000 in
theorem w_X3_fewestToEmpty_11 (l : Launch) (D : va_G) (cy : Nat → ClassId) {L : List Nat} {K N : Nat → Nat} {F G : Nat → Nat → Nat} (hZ : ZL L K N F G) {p : Program} {e : Env} {R : Room} {s : State} {m : MethodId} {args : Array Value} {below : List Frame} {meth : Method} {c : Code} {cells slots : Nat} {Q : State → Prop} (C : ZC p s m args meth c cX3_fewestToEmpty yX3_fewestToEmpty.cls 6 D cy L K N F G) (hRf : 2 ≤ R.frames) (hRl : 43 ≤ R.locals) (hRc : cells ≤ R.cells ∧ slots ≤ R.slots)  (v0 : Nat) (v2 : Int32) (k0 : K v0 = 3) (I : zH) (A : zH) (n : Nat) (x : Int32 × Int32) (o : Int32 × Int32) (h : zIt (fun x => g_X3_fewestToEmpty_11 F G v0 v2 x.1 x.2 I A) n x = some o)
    (hx : ZW p l e R s m args below meth c 6 D cy L K N F G cells slots Q I A 68 [(0, .ref v0), (2, .int v2), (3, .int o.1), (4, .int o.2)] []) : ZW p l e R s m args below meth c 6 D cy L K N F G cells slots Q I A 11 [(0, .ref v0), (2, .int v2), (3, .int x.1), (4, .int x.2)] [] := by
  induction n generalizing x with
  | zero => cases h
  | succ n ih =>
    unfold zIt at h
    cases hb : g_X3_fewestToEmpty_11 F G v0 v2 x.1 x.2 I A with
    | none => rw [hb] at h; cases h
    | some q =>
      rw [hb] at h
      refine wb_X3_fewestToEmpty_11 l D cy hZ C hRf hRl hRc v0 v2 k0 I A x.1 x.2 q hb (fun y hy => ?_) (fun y hy => ?_)
      · subst hy; exact ih y h
      · subst hy; cases h; exact hx
set_option maxHeartbeats 4000000 in
set_option maxRecDepth 100000 in
theorem c_X3_fewestToEmpty (l : Launch) (D : va_G) (cy : Nat → ClassId) {L : List Nat} {K N : Nat → Nat} {F G : Nat → Nat → Nat} (hZ : ZL L K N F G) (h0 : Nat) (r0 : Nat) (k_h0 : K h0 = 3) (k_r0 : K r0 = 0) (I A : zH) {r : Int32} {B' : zH} (h : f_X3_fewestToEmpty F G h0 r0 I A = some (r, B')) : ZMi l yX3_fewestToEmpty cX3_fewestToEmpty 6 (some .int) { frames := 3, cells := 0, slots := 0, locals := 73 } D cy L K N F G [.ref h0, .ref r0] I A r I B' := by
  refine ZMi.of (nL := 6) hZ rfl rfl (by decide) (Nat.le_of_ble_eq_true rfl) (fun p e s m args below meth c C hr => ?_)
  unfold f_X3_fewestToEmpty at h
  refine zr_lv (lv' := [(0, .ref h0), (1, .ref r0)]) C [0, 1] rfl ?_
  refine zr_aload_n C 0 rfl rfl dX3_fewestToEmpty_0 ?_
  refine zr_aload_n C 1 rfl rfl dX3_fewestToEmpty_1 ?_
  obtain ⟨r1, A2, h3, h⟩ := zb2_e h
  refine zr_callVi (n := 1) (As := [.ref r0]) C (c_X3_takeClashes l D cy hZ h0 r0 k_h0 k_r0 I A h3) wd_578 wd_580 wp_21 wd_6 wd_581 (by decide +kernel) ⟨(Nat.le_of_ble_eq_true rfl), (Nat.le_of_ble_eq_true rfl)⟩ rfl rfl ⟨Nat.le_of_ble_eq_true rfl, Nat.le_of_ble_eq_true rfl⟩ k_h0 (by decide) rfl rfl rfl (Nat.le_of_ble_eq_true rfl) dX3_fewestToEmpty_2 ?_
  refine zr_istore_n (lv' := [(2, .int r1), (0, .ref h0), (1, .ref r0)]) C rfl (by decide) rfl dX3_fewestToEmpty_5 ?_
  refine zr_iload_n C 0 rfl rfl dX3_fewestToEmpty_6 ?_
  refine zr_istore_n (lv' := [(3, .int r1), (2, .int r1), (0, .ref h0), (1, .ref r0)]) C rfl (by decide) rfl dX3_fewestToEmpty_7 ?_
  refine zr_iconst (v := 0) C (by decide) dX3_fewestToEmpty_8 ?_
  refine zr_istore (lv' := [(4, .int 0), (3, .int r1), (2, .int r1), (0, .ref h0), (1, .ref r0)]) C (by decide) rfl dX3_fewestToEmpty_9 ?_
  obtain ⟨i5, i6, h7, h⟩ := zb2_e h
  refine zr_lv (lv' := [(0, .ref h0), (2, .int r1), (3, .int r1), (4, .int 0)]) C [3, 2, 1, 0] rfl ?_
  refine w_X3_fewestToEmpty_11 l D cy hZ C (Nat.le_of_ble_eq_true rfl) (Nat.le_of_ble_eq_true rfl) ⟨Nat.le_of_ble_eq_true rfl, Nat.le_of_ble_eq_true rfl⟩ h0 r1 k_h0 I A2 2000 (r1, 0) (i5, i6) h7 ?_
  refine zr_iload_n C 2 rfl rfl dX3_fewestToEmpty_68 ?_
  cases zso h
  exact zr_iret C hr dX3_fewestToEmpty_69

def f_X3_hasNode (F G : Nat → Nat → Nat) (h0 : Nat) (p0 : Int32) (I A : zH) : Option (Int32) :=
  if p0 < 0 then (
    some 0
  ) else (
    if 10 ≤ p0 then (
      some 0
    ) else (
      zb (f_X5_hasBit F G (I h0 4) p0 I A) fun r3 =>
      if r3 = 0 then (
        some 0
      ) else (
        some 1
      )
    )
  )
set_option maxHeartbeats 4000000 in
set_option maxRecDepth 100000 in
theorem c_X3_hasNode (l : Launch) (D : va_G) (cy : Nat → ClassId) {L : List Nat} {K N : Nat → Nat} {F G : Nat → Nat → Nat} (hZ : ZL L K N F G) (h0 : Nat) (p0 : Int32) (k_h0 : K h0 = 3) (I A : zH) {r : Int32} (h : f_X3_hasNode F G h0 p0 I A = some r) : ZMi l yX3_hasNode cX3_hasNode 2 (some .boolean) { frames := 1, cells := 0, slots := 0, locals := 21 } D cy L K N F G [.ref h0, .int p0] I A r I A := by
  refine ZMi.of (nL := 2) hZ rfl rfl (by decide) (Nat.le_of_ble_eq_true rfl) (fun p e s m args below meth c C hr => ?_)
  unfold f_X3_hasNode at h
  refine zr_lv (lv' := [(0, .ref h0), (1, .int p0)]) C [0, 1] rfl ?_
  refine zr_iload_n C 1 rfl rfl dX3_hasNode_0 ?_
  refine zr_if_lt (tgt := 25) C (by decide) dX3_hasNode_1 (fun hc1 => ?_) (fun hc1 => ?_)
  · have h := zif_t hc1 h
    refine zr_iconst (v := 0) C (by decide) dX3_hasNode_25 ?_
    obtain rfl := zso h
    exact zr_zret C hr rfl dX3_hasNode_26
  · have h := zif_f hc1 h
    refine zr_iload_n C 1 rfl rfl dX3_hasNode_4 ?_
    refine zr_bipush (v := 10) C (by decide) dX3_hasNode_5 ?_
    refine zr_icmp_ge (tgt := 25) C (by decide) dX3_hasNode_7 (fun hc2 => ?_) (fun hc2 => ?_)
    · have h := zif_t hc2 h
      refine zr_iconst (v := 0) C (by decide) dX3_hasNode_25 ?_
      obtain rfl := zso h
      exact zr_zret C hr rfl dX3_hasNode_26
    · have h := zif_f hc2 h
      refine zr_aload_n C 0 rfl rfl dX3_hasNode_10 ?_
      refine zr_get (ci := 3) (k := 4) (v := .int (I h0 4)) C k_h0 (by decide) rfl zinX3 (by decide) wd_133 rfl dX3_hasNode_11 ?_
      refine zr_iload_n C 1 rfl rfl dX3_hasNode_14 ?_
      obtain ⟨r3, h4, h⟩ := zb_e h
      refine zr_callNi (n := 2) (As := [.int (I h0 4), .int p0]) C (c_X5_hasBit l D cy hZ (I h0 4) p0 I A h4) C.nb.2 wd_323 wd_1 wd_324 (by decide +kernel) ⟨(Nat.le_of_ble_eq_true rfl), (Nat.le_of_ble_eq_true rfl)⟩ rfl rfl ⟨Nat.le_of_ble_eq_true rfl, Nat.le_of_ble_eq_true rfl⟩ rfl rfl (Nat.le_of_ble_eq_true rfl) dX3_hasNode_15 ?_
      refine zr_if_eq (tgt := 25) C (by decide) dX3_hasNode_18 (fun hc6 => ?_) (fun hc6 => ?_)
      · have h := zif_t hc6 h
        refine zr_iconst (v := 0) C (by decide) dX3_hasNode_25 ?_
        obtain rfl := zso h
        exact zr_zret C hr rfl dX3_hasNode_26
      · have h := zif_f hc6 h
        refine zr_iconst (v := 1) C (by decide) dX3_hasNode_21 ?_
        refine zr_goto (tgt := 26) C (by decide) dX3_hasNode_22 ?_
        obtain rfl := zso h
        exact zr_zret C hr rfl dX3_hasNode_26

def f_X3_isInOrder (F G : Nat → Nat → Nat) (h0 : Nat) (r0 : Nat) (I A : zH) : Option (Int32) :=
  zb (f_X3_duties F G h0 r0 I A) fun r1 =>
  if r1 = 0 then (
    zb (f_X3_countClashes F G h0 r0 I A) fun r5 =>
    if r5 = 0 then (
      some 1
    ) else (
      some 0
    )
  ) else (
    some 0
  )
set_option maxHeartbeats 4000000 in
set_option maxRecDepth 100000 in
theorem c_X3_isInOrder (l : Launch) (D : va_G) (cy : Nat → ClassId) {L : List Nat} {K N : Nat → Nat} {F G : Nat → Nat → Nat} (hZ : ZL L K N F G) (h0 : Nat) (r0 : Nat) (k_h0 : K h0 = 3) (k_r0 : K r0 = 0) (I A : zH) {r : Int32} (h : f_X3_isInOrder F G h0 r0 I A = some r) : ZMi l yX3_isInOrder cX3_isInOrder 2 (some .boolean) { frames := 3, cells := 0, slots := 0, locals := 74 } D cy L K N F G [.ref h0, .ref r0] I A r I A := by
  refine ZMi.of (nL := 2) hZ rfl rfl (by decide) (Nat.le_of_ble_eq_true rfl) (fun p e s m args below meth c C hr => ?_)
  unfold f_X3_isInOrder at h
  refine zr_lv (lv' := [(0, .ref h0), (1, .ref r0)]) C [0, 1] rfl ?_
  refine zr_aload_n C 0 rfl rfl dX3_isInOrder_0 ?_
  refine zr_aload_n C 1 rfl rfl dX3_isInOrder_1 ?_
  obtain ⟨r1, h2, h⟩ := zb_e h
  refine zr_callVi (n := 1) (As := [.ref r0]) C (c_X3_duties l D cy hZ h0 r0 k_h0 k_r0 I A h2) wd_333 wd_334 wd_335 wd_6 wd_336 (by decide +kernel) ⟨(Nat.le_of_ble_eq_true rfl), (Nat.le_of_ble_eq_true rfl)⟩ rfl rfl ⟨Nat.le_of_ble_eq_true rfl, Nat.le_of_ble_eq_true rfl⟩ k_h0 (by decide) rfl rfl rfl (Nat.le_of_ble_eq_true rfl) dX3_isInOrder_2 ?_
  refine zr_if_ne (tgt := 20) C (by decide) dX3_isInOrder_5 (fun hc4 => ?_) (fun hc4 => ?_)
  · have h := zif_f hc4 h
    refine zr_iconst (v := 0) C (by decide) dX3_isInOrder_20 ?_
    obtain rfl := zso h
    exact zr_zret C hr rfl dX3_isInOrder_21
  · have h := zif_t hc4 h
    refine zr_aload_n C 0 rfl rfl dX3_isInOrder_8 ?_
    refine zr_aload_n C 1 rfl rfl dX3_isInOrder_9 ?_
    obtain ⟨r5, h6, h⟩ := zb_e h
    refine zr_callVi (n := 1) (As := [.ref r0]) C (c_X3_countClashes l D cy hZ h0 r0 k_h0 k_r0 I A h6) wd_342 wd_343 wd_344 wd_6 wd_345 (by decide +kernel) ⟨(Nat.le_of_ble_eq_true rfl), (Nat.le_of_ble_eq_true rfl)⟩ rfl rfl ⟨Nat.le_of_ble_eq_true rfl, Nat.le_of_ble_eq_true rfl⟩ k_h0 (by decide) rfl rfl rfl (Nat.le_of_ble_eq_true rfl) dX3_isInOrder_10 ?_
    refine zr_if_ne (tgt := 20) C (by decide) dX3_isInOrder_13 (fun hc8 => ?_) (fun hc8 => ?_)
    · have h := zif_f hc8 h
      refine zr_iconst (v := 0) C (by decide) dX3_isInOrder_20 ?_
      obtain rfl := zso h
      exact zr_zret C hr rfl dX3_isInOrder_21
    · have h := zif_t hc8 h
      refine zr_iconst (v := 1) C (by decide) dX3_isInOrder_16 ?_
      refine zr_goto (tgt := 21) C (by decide) dX3_isInOrder_17 ?_
      obtain rfl := zso h
      exact zr_zret C hr rfl dX3_isInOrder_21

def f_X3_isRecalledUnder (F G : Nat → Nat → Nat) (h0 : Nat) (r0 : Nat) (I A : zH) : Option (Int32) :=
  if (I h0 6) = 1 then (
    zb (f_X3_isInOrder F G h0 r0 I A) fun r2 =>
    if r2 = 0 then (
      some 1
    ) else (
      some 0
    )
  ) else (
    some 0
  )
set_option maxHeartbeats 4000000 in
set_option maxRecDepth 100000 in
theorem c_X3_isRecalledUnder (l : Launch) (D : va_G) (cy : Nat → ClassId) {L : List Nat} {K N : Nat → Nat} {F G : Nat → Nat → Nat} (hZ : ZL L K N F G) (h0 : Nat) (r0 : Nat) (k_h0 : K h0 = 3) (k_r0 : K r0 = 0) (I A : zH) {r : Int32} (h : f_X3_isRecalledUnder F G h0 r0 I A = some r) : ZMi l yX3_isRecalledUnder cX3_isRecalledUnder 2 (some .boolean) { frames := 4, cells := 0, slots := 0, locals := 95 } D cy L K N F G [.ref h0, .ref r0] I A r I A := by
  refine ZMi.of (nL := 2) hZ rfl rfl (by decide) (Nat.le_of_ble_eq_true rfl) (fun p e s m args below meth c C hr => ?_)
  unfold f_X3_isRecalledUnder at h
  refine zr_lv (lv' := [(0, .ref h0), (1, .ref r0)]) C [0, 1] rfl ?_
  refine zr_aload_n C 0 rfl rfl dX3_isRecalledUnder_0 ?_
  refine zr_get (ci := 3) (k := 6) (v := .int (I h0 6)) C k_h0 (by decide) rfl zinX3 (by decide) wd_137 rfl dX3_isRecalledUnder_1 ?_
  refine zr_iconst (v := 1) C (by decide) dX3_isRecalledUnder_4 ?_
  refine zr_icmp_ne (tgt := 20) C (by decide) dX3_isRecalledUnder_5 (fun hc1 => ?_) (fun hc1 => ?_)
  · have h := zif_f hc1 h
    refine zr_iconst (v := 0) C (by decide) dX3_isRecalledUnder_20 ?_
    obtain rfl := zso h
    exact zr_zret C hr rfl dX3_isRecalledUnder_21
  · have h := zif_t hc1 h
    refine zr_aload_n C 0 rfl rfl dX3_isRecalledUnder_8 ?_
    refine zr_aload_n C 1 rfl rfl dX3_isRecalledUnder_9 ?_
    obtain ⟨r2, h3, h⟩ := zb_e h
    refine zr_callVi (n := 1) (As := [.ref r0]) C (c_X3_isInOrder l D cy hZ h0 r0 k_h0 k_r0 I A h3) wd_329 wd_330 wd_331 wd_6 wd_332 (by decide +kernel) ⟨(Nat.le_of_ble_eq_true rfl), (Nat.le_of_ble_eq_true rfl)⟩ rfl rfl ⟨Nat.le_of_ble_eq_true rfl, Nat.le_of_ble_eq_true rfl⟩ k_h0 (by decide) rfl rfl rfl (Nat.le_of_ble_eq_true rfl) dX3_isRecalledUnder_10 ?_
    refine zr_if_ne (tgt := 20) C (by decide) dX3_isRecalledUnder_13 (fun hc5 => ?_) (fun hc5 => ?_)
    · have h := zif_f hc5 h
      refine zr_iconst (v := 0) C (by decide) dX3_isRecalledUnder_20 ?_
      obtain rfl := zso h
      exact zr_zret C hr rfl dX3_isRecalledUnder_21
    · have h := zif_t hc5 h
      refine zr_iconst (v := 1) C (by decide) dX3_isRecalledUnder_16 ?_
      refine zr_goto (tgt := 21) C (by decide) dX3_isRecalledUnder_17 ?_
      obtain rfl := zso h
      exact zr_zret C hr rfl dX3_isRecalledUnder_21

def g_X3_firstFreeNode_2 (F G : Nat → Nat → Nat) (v0 : Nat) (v1 : Int32) (I : zH) (A : zH) : Option ((Int32) ⊕ ((Int32) ⊕ (Int32))) :=
  if 10 ≤ v1 then (
    some (.inr (.inl v1))
  ) else (
    zb (f_X5_hasBit F G (I v0 4) v1 I A) fun r2 =>
    if r2 = 0 then (
      some (.inr (.inr v1))
    ) else (
      some (.inl (v1 + 1))
    )
  )
def f_X3_firstFreeNode (F G : Nat → Nat → Nat) (h0 : Nat) (I A : zH) : Option (Int32) :=
  zs (fun q => q) (zIt (fun x => g_X3_firstFreeNode_2 F G h0 x I A) 2000 0) fun x3 =>
   some (-1)
set_option maxHeartbeats 4000000 in
set_option maxRecDepth 100000 in
theorem wb_X3_firstFreeNode_2 (l : Launch) (D : va_G) (cy : Nat → ClassId) {L : List Nat} {K N : Nat → Nat} {F G : Nat → Nat → Nat} (hZ : ZL L K N F G) {p : Program} {e : Env} {R : Room} {s : State} {m : MethodId} {args : Array Value} {below : List Frame} {meth : Method} {c : Code} {cells slots : Nat} {r : Int32} (C : ZC p s m args meth c cX3_firstFreeNode yX3_firstFreeNode.cls 2 D cy L K N F G) (hRf : 1 ≤ R.frames) (hRl : 21 ≤ R.locals) (hRc : cells ≤ R.cells ∧ slots ≤ R.slots) (hr : meth.sig.returnType = (some .int)) (v0 : Nat) (k0 : K v0 = 3) (I : zH) (A : zH) (v1 : Int32) (o : (Int32) ⊕ ((Int32) ⊕ (Int32))) (h : g_X3_firstFreeNode_2 F G v0 v1 I A = some o)
    (hg : ∀ y : Int32, o = .inl y → ZW p l e R s m args below meth c 2 D cy L K N F G cells slots (MQ below (va_Qi (fun x (_ : Unit) => x = r) (fun _ t => zPost D cy L K N F G I A t) (zA L s.heap.size)) args s cells slots (zA L s.heap.size)) I A 2 [(0, .ref v0), (1, .int y)] [])
    (hx : ∀ y : Int32, o = .inr (.inl y) → ZW p l e R s m args below meth c 2 D cy L K N F G cells slots (MQ below (va_Qi (fun x (_ : Unit) => x = r) (fun _ t => zPost D cy L K N F G I A t) (zA L s.heap.size)) args s cells slots (zA L s.heap.size)) I A 27 [(0, .ref v0), (1, .int y)] [])
    (hX : ∀ y : Int32, o = .inr (.inr y) → y = r) : ZW p l e R s m args below meth c 2 D cy L K N F G cells slots (MQ below (va_Qi (fun x (_ : Unit) => x = r) (fun _ t => zPost D cy L K N F G I A t) (zA L s.heap.size)) args s cells slots (zA L s.heap.size)) I A 2 [(0, .ref v0), (1, .int v1)] [] := by
  unfold g_X3_firstFreeNode_2 at h
  refine zr_iload_n C 1 rfl rfl dX3_firstFreeNode_2 ?_
  refine zr_bipush (v := 10) C (by decide) dX3_firstFreeNode_3 ?_
  refine zr_icmp_ge (tgt := 27) C (by decide) dX3_firstFreeNode_5 (fun hc1 => ?_) (fun hc1 => ?_)
  · have h := zif_t hc1 h
    obtain rfl := zso h
    refine zr_lv (lv' := [(0, .ref v0), (1, .int v1)]) C [0, 1] rfl ?_
    exact hx _ rfl
  · have h := zif_f hc1 h
    refine zr_aload_n C 0 rfl rfl dX3_firstFreeNode_8 ?_
    refine zr_get (ci := 3) (k := 4) (v := .int (I v0 4)) C k0 (by decide) rfl zinX3 (by decide) wd_133 rfl dX3_firstFreeNode_9 ?_
    refine zr_iload_n C 1 rfl rfl dX3_firstFreeNode_12 ?_
    obtain ⟨r2, h3, h⟩ := zb_e h
    refine zr_callNi (n := 2) (As := [.int (I v0 4), .int v1]) C (c_X5_hasBit l D cy hZ (I v0 4) v1 I A h3) C.nb.2 wd_323 wd_1 wd_324 (by decide +kernel) ⟨(Nat.le_trans (Nat.le_of_ble_eq_true rfl) hRf), (Nat.le_trans (Nat.le_of_ble_eq_true rfl) hRl)⟩ rfl rfl hRc rfl rfl (Nat.le_of_ble_eq_true rfl) dX3_firstFreeNode_13 ?_
    refine zr_if_ne (tgt := 21) C (by decide) dX3_firstFreeNode_16 (fun hc5 => ?_) (fun hc5 => ?_)
    · have h := zif_f hc5 h
      refine zr_iinc (v := v1 + 1) (lv' := [(1, .int (v1 + 1)), (0, .ref v0)]) C 1 rfl rfl (by decide) rfl dX3_firstFreeNode_21 ?_
      refine zr_goto (tgt := 2) C (by decide) dX3_firstFreeNode_24 ?_
      obtain rfl := zso h
      refine zr_lv (lv' := [(0, .ref v0), (1, .int (v1 + 1))]) C [1, 0] rfl ?_
      exact hg _ rfl
    · have h := zif_t hc5 h
      refine zr_iload_n C 1 rfl rfl dX3_firstFreeNode_19 ?_
      obtain rfl := zso h
      obtain rfl := hX _ rfl
      exact zr_iret C hr dX3_firstFreeNode_20
set_option maxHeartbeats 4000000 in
set_option maxRecDepth 100000 in
theorem w_X3_firstFreeNode_2 (l : Launch) (D : va_G) (cy : Nat → ClassId) {L : List Nat} {K N : Nat → Nat} {F G : Nat → Nat → Nat} (hZ : ZL L K N F G) {p : Program} {e : Env} {R : Room} {s : State} {m : MethodId} {args : Array Value} {below : List Frame} {meth : Method} {c : Code} {cells slots : Nat} {r : Int32} (C : ZC p s m args meth c cX3_firstFreeNode yX3_firstFreeNode.cls 2 D cy L K N F G) (hRf : 1 ≤ R.frames) (hRl : 21 ≤ R.locals) (hRc : cells ≤ R.cells ∧ slots ≤ R.slots) (hr : meth.sig.returnType = (some .int)) (v0 : Nat) (k0 : K v0 = 3) (I : zH) (A : zH) (n : Nat) (x : Int32) (o : (Int32) ⊕ (Int32)) (h : zIt (fun x => g_X3_firstFreeNode_2 F G v0 x I A) n x = some o)
    (hx : ∀ y : Int32, o = .inl y → ZW p l e R s m args below meth c 2 D cy L K N F G cells slots (MQ below (va_Qi (fun x (_ : Unit) => x = r) (fun _ t => zPost D cy L K N F G I A t) (zA L s.heap.size)) args s cells slots (zA L s.heap.size)) I A 27 [(0, .ref v0), (1, .int y)] []) (hX : ∀ y : Int32, o = .inr y → y = r) : ZW p l e R s m args below meth c 2 D cy L K N F G cells slots (MQ below (va_Qi (fun x (_ : Unit) => x = r) (fun _ t => zPost D cy L K N F G I A t) (zA L s.heap.size)) args s cells slots (zA L s.heap.size)) I A 2 [(0, .ref v0), (1, .int x)] [] := by
  induction n generalizing x with
  | zero => cases h
  | succ n ih =>
    unfold zIt at h
    cases hb : g_X3_firstFreeNode_2 F G v0 x I A with
    | none => rw [hb] at h; cases h
    | some q =>
      rw [hb] at h
      refine wb_X3_firstFreeNode_2 l D cy hZ C hRf hRl hRc hr v0 k0 I A x q hb (fun y hy => ?_) (fun y hy => ?_) (fun y hy => ?_)
      · subst hy; exact ih y h
      · subst hy; cases h; exact hx y rfl
      · subst hy; cases h; exact hX y rfl
set_option maxHeartbeats 4000000 in
set_option maxRecDepth 100000 in
theorem c_X3_firstFreeNode (l : Launch) (D : va_G) (cy : Nat → ClassId) {L : List Nat} {K N : Nat → Nat} {F G : Nat → Nat → Nat} (hZ : ZL L K N F G) (h0 : Nat) (k_h0 : K h0 = 3) (I A : zH) {r : Int32} (h : f_X3_firstFreeNode F G h0 I A = some r) : ZMi l yX3_firstFreeNode cX3_firstFreeNode 2 (some .int) { frames := 1, cells := 0, slots := 0, locals := 21 } D cy L K N F G [.ref h0] I A r I A := by
  refine ZMi.of (nL := 2) hZ rfl rfl (by decide) (Nat.le_of_ble_eq_true rfl) (fun p e s m args below meth c C hr => ?_)
  unfold f_X3_firstFreeNode at h
  refine zr_lv (lv' := [(0, .ref h0)]) C [0] rfl ?_
  refine zr_iconst (v := 0) C (by decide) dX3_firstFreeNode_0 ?_
  refine zr_istore_n (lv' := [(1, .int 0), (0, .ref h0)]) C rfl (by decide) rfl dX3_firstFreeNode_1 ?_
  refine zr_lv (lv' := [(0, .ref h0), (1, .int 0)]) C [1, 0] rfl ?_
  obtain ⟨x3, h2, h⟩ | ⟨x3, h2, h⟩ := zs_e h
  · refine w_X3_firstFreeNode_2 l D cy hZ C (Nat.le_of_ble_eq_true rfl) (Nat.le_of_ble_eq_true rfl) ⟨Nat.le_of_ble_eq_true rfl, Nat.le_of_ble_eq_true rfl⟩ hr h0 k_h0 I A 2000 0 (.inl x3) h2 (fun y hy => ?_) (fun q hq => by cases hq)
    cases hy
    obtain ⟨i1, rfl⟩ : ∃ z, z = x3 := ⟨_, rfl⟩
    refine zr_iconst (v := (-1)) C (by decide) dX3_firstFreeNode_27 ?_
    obtain rfl := zso h
    exact zr_iret C hr dX3_firstFreeNode_28
  · refine w_X3_firstFreeNode_2 l D cy hZ C (Nat.le_of_ble_eq_true rfl) (Nat.le_of_ble_eq_true rfl) ⟨Nat.le_of_ble_eq_true rfl, Nat.le_of_ble_eq_true rfl⟩ hr h0 k_h0 I A 2000 0 (.inr x3) h2 (fun y hy => by cases hy) (fun q hq => ?_)
    cases hq
    exact h

def f_X3_grow (F G : Nat → Nat → Nat) (h0 : Nat) (p0 : Int32) (p1 : Int32) (p2 : Int32) (I A : zH) : Option (zH × zH) :=
  zlet (up2 I h0 4 ((I h0 4) ||| ((1 : Int32) <<< (p0 &&& 31)))) fun I1 =>
  zck (¬ (p0 < 0 ∨ 10 ≤ p0.toNatClampNeg)) <|
  zlet (up2 A (F h0 0) p0.toNatClampNeg p1) fun A3 =>
  zck (¬ (p1 < 0 ∨ 10 ≤ p1.toNatClampNeg)) <|
  zck (¬ (p0 < 0 ∨ 10 ≤ p0.toNatClampNeg)) <|
  zlet (up2 A3 (F h0 1) p0.toNatClampNeg ((A3 (F h0 1) p1.toNatClampNeg) ||| ((1 : Int32) <<< (p1 &&& 31)))) fun A6 =>
  zck (¬ (p0 < 0 ∨ 10 ≤ p0.toNatClampNeg)) <|
  zlet (up2 A6 (F h0 2) p0.toNatClampNeg p2) fun A8 =>
  some (I1, A8)
set_option maxHeartbeats 4000000 in
set_option maxRecDepth 100000 in
theorem c_X3_grow (l : Launch) (D : va_G) (cy : Nat → ClassId) {L : List Nat} {K N : Nat → Nat} {F G : Nat → Nat → Nat} (hZ : ZL L K N F G) (h0 : Nat) (p0 : Int32) (p1 : Int32) (p2 : Int32) (k_h0 : K h0 = 3) (I A : zH) {J' : zH} {B' : zH} (h : f_X3_grow F G h0 p0 p1 p2 I A = some (J', B')) : ZMv l yX3_grow cX3_grow 4 none { frames := 0, cells := 0, slots := 0, locals := 0 } D cy L K N F G [.ref h0, .int p0, .int p1, .int p2] I A J' B' := by
  refine ZMv.of (nL := 4) hZ rfl rfl (by decide) (Nat.le_of_ble_eq_true rfl) (fun p e s m args below meth c C hr => ?_)
  unfold f_X3_grow at h
  refine zr_lv (lv' := [(0, .ref h0), (1, .int p0), (2, .int p1), (3, .int p2)]) C [0, 1, 2, 3] rfl ?_
  refine zr_aload_n C 0 rfl rfl dX3_grow_0 ?_
  refine zr_dup C rfl dX3_grow_1 ?_
  refine zr_get (ci := 3) (k := 4) (v := .int (I h0 4)) C k_h0 (by decide) rfl zinX3 (by decide) wd_133 rfl dX3_grow_2 ?_
  refine zr_iconst (v := 1) C (by decide) dX3_grow_5 ?_
  refine zr_iload_n C 1 rfl rfl dX3_grow_6 ?_
  refine zr_ishl C dX3_grow_7 ?_
  refine zr_ior C dX3_grow_8 ?_
  refine zr_put (ci := 3) (k := 4) (ty := .int) C tyX3 k_h0 (by decide) rfl zinX3 tyX3_ok nmX3 (by decide) wd_133 rfl (by decide +kernel) rfl rfl (Nat.le_of_ble_eq_true rfl) (zset_3_4 F _ _ _) dX3_grow_9 ?_
  obtain ⟨I1, eI1, h⟩ := zlet_e h
  rw [← eI1]
  refine zr_aload_n C 0 rfl rfl dX3_grow_12 ?_
  refine zr_get (ci := 3) (k := 0) (v := .ref (F h0 0)) C k_h0 (by decide) rfl zinX3 (by decide) wd_126 rfl dX3_grow_13 ?_
  refine zr_iload_n C 1 rfl rfl dX3_grow_16 ?_
  refine zr_iload_n C 2 rfl rfl dX3_grow_17 ?_
  obtain ⟨hc2, h⟩ := zck_e h
  refine zr_iast C (zt3 hZ k_h0 0 (by decide)).1 (zt3 hZ k_h0 0 (by decide)).2 hc2 dX3_grow_18 ?_
  obtain ⟨A3, eA3, h⟩ := zlet_e h
  rw [← eA3]
  refine zr_aload_n C 0 rfl rfl dX3_grow_19 ?_
  refine zr_get (ci := 3) (k := 1) (v := .ref (F h0 1)) C k_h0 (by decide) rfl zinX3 (by decide) wd_128 rfl dX3_grow_20 ?_
  refine zr_iload_n C 1 rfl rfl dX3_grow_23 ?_
  refine zr_aload_n C 0 rfl rfl dX3_grow_24 ?_
  refine zr_get (ci := 3) (k := 1) (v := .ref (F h0 1)) C k_h0 (by decide) rfl zinX3 (by decide) wd_128 rfl dX3_grow_25 ?_
  refine zr_iload_n C 2 rfl rfl dX3_grow_28 ?_
  obtain ⟨hc4, h⟩ := zck_e h
  refine zr_iald C (zt3 hZ k_h0 1 (by decide)).1 (zt3 hZ k_h0 1 (by decide)).2 hc4 dX3_grow_29 ?_
  refine zr_iconst (v := 1) C (by decide) dX3_grow_30 ?_
  refine zr_iload_n C 2 rfl rfl dX3_grow_31 ?_
  refine zr_ishl C dX3_grow_32 ?_
  refine zr_ior C dX3_grow_33 ?_
  obtain ⟨hc5, h⟩ := zck_e h
  refine zr_iast C (zt3 hZ k_h0 1 (by decide)).1 (zt3 hZ k_h0 1 (by decide)).2 hc5 dX3_grow_34 ?_
  obtain ⟨A6, eA6, h⟩ := zlet_e h
  rw [← eA6]
  refine zr_aload_n C 0 rfl rfl dX3_grow_35 ?_
  refine zr_get (ci := 3) (k := 2) (v := .ref (F h0 2)) C k_h0 (by decide) rfl zinX3 (by decide) wd_130 rfl dX3_grow_36 ?_
  refine zr_iload_n C 1 rfl rfl dX3_grow_39 ?_
  refine zr_iload_n C 3 rfl rfl dX3_grow_40 ?_
  obtain ⟨hc7, h⟩ := zck_e h
  refine zr_iast C (zt3 hZ k_h0 2 (by decide)).1 (zt3 hZ k_h0 2 (by decide)).2 hc7 dX3_grow_41 ?_
  obtain ⟨A8, eA8, h⟩ := zlet_e h
  rw [← eA8]
  cases zso h
  exact zr_vret C hr dX3_grow_42

