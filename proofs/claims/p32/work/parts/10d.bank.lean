def g_X5_boundWith_19 (F G : Nat → Nat → Nat) (v0 : Nat) (v2 : Int32) (v3 : Int32) (I : zH) (A : zH) : Option ((Int32 × Int32) ⊕ (Int32 × Int32)) :=
  if (I v0 8) ≤ v3 then (
    some (.inr (v2, v3))
  ) else (
    zb (f_X0_licencesOf F G (F v0 7) v3 I A) fun r2 =>
    zb (f_X0_licencesOf F G (F v0 6) v3 I A) fun r5 =>
    if r2 = r5 then (
      some (.inl (v2, v3 + 1))
    ) else (
      some (.inl (v2 + 1, v3 + 1))
    )
  )
def f_X5_boundWith (F G : Nat → Nat → Nat) (h0 : Nat) (p0 : Int32) (I A : zH) : Option (Int32 × zH) :=
  zb (f_X5_needNearness F G p0 I A) fun _ =>
  zb (f_X5_bind F G h0 (F h0 7) p0 (-1) (-1) I A) fun A3 =>
  zb2 (zIt (fun x => g_X5_boundWith_19 F G h0 x.1 x.2 I A3) 2000 (0, 0)) fun i6 i7 =>
  some (i6, A3)
set_option maxHeartbeats 4000000 in
set_option maxRecDepth 100000 in
theorem wb_X5_boundWith_19 (l : Launch) (D : va_G) (cy : Nat → ClassId) {L : List Nat} {K N : Nat → Nat} {F G : Nat → Nat → Nat} (hZ : ZL L K N F G) {p : Program} {e : Env} {R : Room} {s : State} {m : MethodId} {args : Array Value} {below : List Frame} {meth : Method} {c : Code} {cells slots : Nat} {Q : State → Prop} (C : ZC p s m args meth c cX5_boundWith yX5_boundWith.cls 4 D cy L K N F G) (hRf : 1 ≤ R.frames) (hRl : 21 ≤ R.locals) (hRc : cells ≤ R.cells ∧ slots ≤ R.slots)  (v0 : Nat) (k0 : K v0 = 5) (I : zH) (A : zH) (v2 : Int32) (v3 : Int32) (o : (Int32 × Int32) ⊕ (Int32 × Int32)) (h : g_X5_boundWith_19 F G v0 v2 v3 I A = some o)
    (hg : ∀ y : Int32 × Int32, o = .inl y → ZW p l e R s m args below meth c 4 D cy L K N F G cells slots Q I A 19 [(0, .ref v0), (2, .int y.1), (3, .int y.2)] [])
    (hx : ∀ y : Int32 × Int32, o = .inr y → ZW p l e R s m args below meth c 4 D cy L K N F G cells slots Q I A 55 [(0, .ref v0), (2, .int y.1), (3, .int y.2)] []) : ZW p l e R s m args below meth c 4 D cy L K N F G cells slots Q I A 19 [(0, .ref v0), (2, .int v2), (3, .int v3)] [] := by
  unfold g_X5_boundWith_19 at h
  refine zr_iload_n C 2 rfl rfl dX5_boundWith_19 ?_
  refine zr_aload_n C 0 rfl rfl dX5_boundWith_20 ?_
  refine zr_get (ci := 5) (k := 8) (v := .int (I v0 8)) C k0 (by decide) rfl zinX5 (by decide) wd_166 rfl dX5_boundWith_21 ?_
  refine zr_icmp_ge (tgt := 55) C (by decide) dX5_boundWith_24 (fun hc1 => ?_) (fun hc1 => ?_)
  · have h := zif_t hc1 h
    obtain rfl := zso h
    refine zr_lv (lv' := [(0, .ref v0), (2, .int v2), (3, .int v3)]) C [0, 1, 2] rfl ?_
    exact hx _ rfl
  · have h := zif_f hc1 h
    refine zr_aload_n C 0 rfl rfl dX5_boundWith_27 ?_
    refine zr_get (ci := 5) (k := 7) (v := .ref (F v0 7)) C k0 (by decide) rfl zinX5 (by decide) wd_165 rfl dX5_boundWith_28 ?_
    refine zr_iload_n C 2 rfl rfl dX5_boundWith_31 ?_
    obtain ⟨r2, h3, h⟩ := zb_e h
    refine zr_callVi (n := 1) (As := [.int v3]) C (c_X0_licencesOf l D cy hZ (F v0 7) v3 (zt57 hZ k0) I A h3) wd_314 wd_315 wd_316 wd_3 wd_317 (by decide +kernel) ⟨(Nat.le_trans (Nat.le_of_ble_eq_true rfl) hRf), (Nat.le_trans (Nat.le_of_ble_eq_true rfl) hRl)⟩ rfl rfl hRc (zt57 hZ k0) (by decide) rfl rfl rfl (Nat.le_of_ble_eq_true rfl) dX5_boundWith_32 ?_
    refine zr_aload_n C 0 rfl rfl dX5_boundWith_35 ?_
    refine zr_get (ci := 5) (k := 6) (v := .ref (F v0 6)) C k0 (by decide) rfl zinX5 (by decide) wd_164 rfl dX5_boundWith_36 ?_
    refine zr_iload_n C 2 rfl rfl dX5_boundWith_39 ?_
    obtain ⟨r5, h6, h⟩ := zb_e h
    refine zr_callVi (n := 1) (As := [.int v3]) C (c_X0_licencesOf l D cy hZ (F v0 6) v3 (zt56 hZ k0) I A h6) wd_314 wd_315 wd_316 wd_3 wd_317 (by decide +kernel) ⟨(Nat.le_trans (Nat.le_of_ble_eq_true rfl) hRf), (Nat.le_trans (Nat.le_of_ble_eq_true rfl) hRl)⟩ rfl rfl hRc (zt56 hZ k0) (by decide) rfl rfl rfl (Nat.le_of_ble_eq_true rfl) dX5_boundWith_40 ?_
    refine zr_icmp_eq (tgt := 49) C (by decide) dX5_boundWith_43 (fun hc8 => ?_) (fun hc8 => ?_)
    · have h := zif_t hc8 h
      refine zr_iinc (v := v3 + 1) (lv' := [(3, .int (v3 + 1)), (0, .ref v0), (2, .int v2)]) C 2 rfl rfl (by decide) rfl dX5_boundWith_49 ?_
      refine zr_goto (tgt := 19) C (by decide) dX5_boundWith_52 ?_
      obtain rfl := zso h
      refine zr_lv (lv' := [(0, .ref v0), (2, .int v2), (3, .int (v3 + 1))]) C [1, 2, 0] rfl ?_
      exact hg _ rfl
    · have h := zif_f hc8 h
      refine zr_iinc (v := v2 + 1) (lv' := [(2, .int (v2 + 1)), (0, .ref v0), (3, .int v3)]) C 1 rfl rfl (by decide) rfl dX5_boundWith_46 ?_
      refine zr_iinc (v := v3 + 1) (lv' := [(3, .int (v3 + 1)), (2, .int (v2 + 1)), (0, .ref v0)]) C 2 rfl rfl (by decide) rfl dX5_boundWith_49 ?_
      refine zr_goto (tgt := 19) C (by decide) dX5_boundWith_52 ?_
      obtain rfl := zso h
      refine zr_lv (lv' := [(0, .ref v0), (2, .int (v2 + 1)), (3, .int (v3 + 1))]) C [2, 1, 0] rfl ?_
      exact hg _ rfl
set_option maxHeartbeats 4000000 in
set_option maxRecDepth 100000 in
theorem w_X5_boundWith_19 (l : Launch) (D : va_G) (cy : Nat → ClassId) {L : List Nat} {K N : Nat → Nat} {F G : Nat → Nat → Nat} (hZ : ZL L K N F G) {p : Program} {e : Env} {R : Room} {s : State} {m : MethodId} {args : Array Value} {below : List Frame} {meth : Method} {c : Code} {cells slots : Nat} {Q : State → Prop} (C : ZC p s m args meth c cX5_boundWith yX5_boundWith.cls 4 D cy L K N F G) (hRf : 1 ≤ R.frames) (hRl : 21 ≤ R.locals) (hRc : cells ≤ R.cells ∧ slots ≤ R.slots)  (v0 : Nat) (k0 : K v0 = 5) (I : zH) (A : zH) (n : Nat) (x : Int32 × Int32) (o : Int32 × Int32) (h : zIt (fun x => g_X5_boundWith_19 F G v0 x.1 x.2 I A) n x = some o)
    (hx : ZW p l e R s m args below meth c 4 D cy L K N F G cells slots Q I A 55 [(0, .ref v0), (2, .int o.1), (3, .int o.2)] []) : ZW p l e R s m args below meth c 4 D cy L K N F G cells slots Q I A 19 [(0, .ref v0), (2, .int x.1), (3, .int x.2)] [] := by
  induction n generalizing x with
  | zero => cases h
  | succ n ih =>
    unfold zIt at h
    cases hb : g_X5_boundWith_19 F G v0 x.1 x.2 I A with
    | none => rw [hb] at h; cases h
    | some q =>
      rw [hb] at h
      refine wb_X5_boundWith_19 l D cy hZ C hRf hRl hRc v0 k0 I A x.1 x.2 q hb (fun y hy => ?_) (fun y hy => ?_)
      · subst hy; exact ih y h
      · subst hy; cases h; exact hx
set_option maxHeartbeats 4000000 in
set_option maxRecDepth 100000 in
theorem c_X5_boundWith (l : Launch) (D : va_G) (cy : Nat → ClassId) {L : List Nat} {K N : Nat → Nat} {F G : Nat → Nat → Nat} (hZ : ZL L K N F G) (h0 : Nat) (p0 : Int32) (k_h0 : K h0 = 5) (I A : zH) {r : Int32} {B' : zH} (h : f_X5_boundWith F G h0 p0 I A = some (r, B')) : ZMi l yX5_boundWith cX5_boundWith 4 (some .int) { frames := 3, cells := 0, slots := 0, locals := 75 } D cy L K N F G [.ref h0, .int p0] I A r I B' := by
  refine ZMi.of (nL := 4) hZ rfl rfl (by decide) (Nat.le_of_ble_eq_true rfl) (fun p e s m args below meth c C hr => ?_)
  unfold f_X5_boundWith at h
  refine zr_lv (lv' := [(0, .ref h0), (1, .int p0)]) C [0, 1] rfl ?_
  refine zr_iload_n C 1 rfl rfl dX5_boundWith_0 ?_
  obtain ⟨_, h1, h⟩ := zb_e h
  refine zr_callSv (n := 1) (As := [.int p0]) C (c_X5_needNearness l D cy hZ p0 I A h1) wd_642 wd_643 wd_1 wd_644 (by decide +kernel) ⟨(Nat.le_of_ble_eq_true rfl), (Nat.le_of_ble_eq_true rfl)⟩ rfl rfl ⟨Nat.le_of_ble_eq_true rfl, Nat.le_of_ble_eq_true rfl⟩ rfl rfl (Nat.le_of_ble_eq_true rfl) dX5_boundWith_1 ?_
  refine zr_aload_n C 0 rfl rfl dX5_boundWith_4 ?_
  refine zr_aload_n C 0 rfl rfl dX5_boundWith_5 ?_
  refine zr_get (ci := 5) (k := 7) (v := .ref (F h0 7)) C k_h0 (by decide) rfl zinX5 (by decide) wd_165 rfl dX5_boundWith_6 ?_
  refine zr_iload_n C 1 rfl rfl dX5_boundWith_9 ?_
  refine zr_iconst (v := (-1)) C (by decide) dX5_boundWith_10 ?_
  refine zr_iconst (v := (-1)) C (by decide) dX5_boundWith_11 ?_
  obtain ⟨A3, h4, h⟩ := zb_e h
  refine zr_callVv (n := 4) (As := [.ref (F h0 7), .int p0, .int (-1), .int (-1)]) C (c_X5_bind l D cy hZ h0 (F h0 7) p0 (-1) (-1) k_h0 (zt57 hZ k_h0) I A h4) wd_310 wd_312 wp_8 wd_1 wd_313 (by decide +kernel) ⟨(Nat.le_of_ble_eq_true rfl), (Nat.le_of_ble_eq_true rfl)⟩ rfl rfl ⟨Nat.le_of_ble_eq_true rfl, Nat.le_of_ble_eq_true rfl⟩ k_h0 (by decide) rfl rfl rfl (Nat.le_of_ble_eq_true rfl) dX5_boundWith_12 ?_
  refine zr_iconst (v := 0) C (by decide) dX5_boundWith_15 ?_
  refine zr_istore_n (lv' := [(2, .int 0), (0, .ref h0), (1, .int p0)]) C rfl (by decide) rfl dX5_boundWith_16 ?_
  refine zr_iconst (v := 0) C (by decide) dX5_boundWith_17 ?_
  refine zr_istore_n (lv' := [(3, .int 0), (2, .int 0), (0, .ref h0), (1, .int p0)]) C rfl (by decide) rfl dX5_boundWith_18 ?_
  obtain ⟨i6, i7, h8, h⟩ := zb2_e h
  refine zr_lv (lv' := [(0, .ref h0), (2, .int 0), (3, .int 0)]) C [2, 1, 0] rfl ?_
  refine w_X5_boundWith_19 l D cy hZ C (Nat.le_of_ble_eq_true rfl) (Nat.le_of_ble_eq_true rfl) ⟨Nat.le_of_ble_eq_true rfl, Nat.le_of_ble_eq_true rfl⟩ h0 k_h0 I A3 2000 (0, 0) (i6, i7) h8 ?_
  refine zr_iload_n C 1 rfl rfl dX5_boundWith_55 ?_
  cases zso h
  exact zr_iret C hr dX5_boundWith_56

def g_X5_digest_6 (F G : Nat → Nat → Nat) (v0 : Nat) (v1 : Int64) (v3 : Int32) (I : zH) (A : zH) : Option ((Int64 × Int32) ⊕ (Int64 × Int32)) :=
  if 11 ≤ v3 then (
    some (.inr (v1, v3))
  ) else (
    zb (f_X5_many F G v0 v3 I A) fun r2 =>
    zb (f_X5_fold F G v1 r2 I A) fun r5 =>
    some (.inl (r5, v3 + 1))
  )
def g_X5_digest_30 (F G : Nat → Nat → Nat) (v0 : Nat) (v1 : Int64) (v3 : Int32) (I : zH) (A : zH) : Option ((Int64 × Int32) ⊕ (Int64 × Int32)) :=
  if (I v0 8) ≤ v3 then (
    some (.inr (v1, v3))
  ) else (
    zb (f_X5_foldPiece F G v0 v1 v3 I A) fun r2 =>
    some (.inl (r2, v3 + 1))
  )
def g_X5_digest_53 (F G : Nat → Nat → Nat) (v0 : Nat) (v1 : Int64) (v3 : Int32) (I : zH) (A : zH) : Option ((Int64 × Int32) ⊕ (Int64 × Int32)) :=
  if (I v0 9) ≤ v3 then (
    some (.inr (v1, v3))
  ) else (
    zb (f_X5_foldLicence F G v0 v1 v3 I A) fun r2 =>
    some (.inl (r2, v3 + 1))
  )
def g_X5_digest_76 (F G : Nat → Nat → Nat) (v0 : Nat) (v1 : Int64) (v3 : Int32) (A : zH) (I : zH) : Option ((Int64 × Int32 × zH) ⊕ (Int64 × Int32 × zH)) :=
  if (I v0 10) ≤ v3 then (
    some (.inr (v1, v3, A))
  ) else (
    zb2 (f_X5_foldProject F G v0 v1 v3 I A) fun r2 A3 =>
    some (.inl (r2, v3 + 1, A3))
  )
def f_X5_digest (F G : Nat → Nat → Nat) (h0 : Nat) (I A : zH) : Option (Int64 × zH) :=
  zb2 (zIt (fun x => g_X5_digest_6 F G h0 x.1 x.2 I A) 2000 (58109, 0)) fun j1 i2 =>
  zb2 (zIt (fun x => g_X5_digest_30 F G h0 x.1 x.2 I A) 2000 (j1, 0)) fun j3 i4 =>
  zb2 (zIt (fun x => g_X5_digest_53 F G h0 x.1 x.2 I A) 2000 (j3, 0)) fun j5 i6 =>
  zb3 (zIt (fun x => g_X5_digest_76 F G h0 x.1 x.2.1 x.2.2 I ) 2000 (j5, 0, A)) fun j7 i8 A9 =>
  zb2 (f_X5_boundWith F G h0 30 I A9) fun r10 A11 =>
  zb (f_X5_fold F G j7 r10 I A11) fun r14 =>
  zb2 (f_X5_boundWith F G h0 90 I A11) fun r17 A18 =>
  zb (f_X5_fold F G r14 r17 I A18) fun r21 =>
  some (r21, A18)
set_option maxHeartbeats 4000000 in
set_option maxRecDepth 100000 in
theorem wb_X5_digest_6 (l : Launch) (D : va_G) (cy : Nat → ClassId) {L : List Nat} {K N : Nat → Nat} {F G : Nat → Nat → Nat} (hZ : ZL L K N F G) {p : Program} {e : Env} {R : Room} {s : State} {m : MethodId} {args : Array Value} {below : List Frame} {meth : Method} {c : Code} {cells slots : Nat} {Q : State → Prop} (C : ZC p s m args meth c cX5_digest yX5_digest.cls 4 D cy L K N F G) (hRf : 3 ≤ R.frames) (hRl : 63 ≤ R.locals) (hRc : cells ≤ R.cells ∧ slots ≤ R.slots)  (v0 : Nat) (k0 : K v0 = 5) (I : zH) (A : zH) (v1 : Int64) (v3 : Int32) (o : (Int64 × Int32) ⊕ (Int64 × Int32)) (h : g_X5_digest_6 F G v0 v1 v3 I A = some o)
    (hg : ∀ y : Int64 × Int32, o = .inl y → ZW p l e R s m args below meth c 4 D cy L K N F G cells slots Q I A 6 [(0, .ref v0), (1, .long y.1), (3, .int y.2)] [])
    (hx : ∀ y : Int64 × Int32, o = .inr y → ZW p l e R s m args below meth c 4 D cy L K N F G cells slots Q I A 28 [(0, .ref v0), (1, .long y.1), (3, .int y.2)] []) : ZW p l e R s m args below meth c 4 D cy L K N F G cells slots Q I A 6 [(0, .ref v0), (1, .long v1), (3, .int v3)] [] := by
  unfold g_X5_digest_6 at h
  refine zr_iload_n C 2 rfl rfl dX5_digest_6 ?_
  refine zr_bipush (v := 11) C (by decide) dX5_digest_7 ?_
  refine zr_icmp_ge (tgt := 28) C (by decide) dX5_digest_9 (fun hc1 => ?_) (fun hc1 => ?_)
  · have h := zif_t hc1 h
    obtain rfl := zso h
    refine zr_lv (lv' := [(0, .ref v0), (1, .long v1), (3, .int v3)]) C [0, 1, 2] rfl ?_
    exact hx _ rfl
  · have h := zif_f hc1 h
    refine zr_lload_n C 1 rfl rfl dX5_digest_12 ?_
    refine zr_aload_n C 0 rfl rfl dX5_digest_13 ?_
    refine zr_iload_n C 2 rfl rfl dX5_digest_14 ?_
    obtain ⟨r2, h3, h⟩ := zb_e h
    refine zr_callVi (n := 1) (As := [.int v3]) C (c_X5_many l D cy hZ v0 v3 k0 I A h3) wd_598 wd_508 wd_509 wd_1 wd_510 (by decide +kernel) ⟨(Nat.le_trans (Nat.le_of_ble_eq_true rfl) hRf), (Nat.le_trans (Nat.le_of_ble_eq_true rfl) hRl)⟩ rfl rfl hRc k0 (by decide) rfl rfl rfl (Nat.le_of_ble_eq_true rfl) dX5_digest_15 ?_
    obtain ⟨r5, h6, h⟩ := zb_e h
    refine zr_callSl (n := 2) (As := [.long v1, .int r2]) C (c_X5_fold l D cy hZ v1 r2 I A h6) wd_599 wd_600 wd_1 wd_601 (by decide +kernel) ⟨(Nat.le_trans (Nat.le_of_ble_eq_true rfl) hRf), (Nat.le_trans (Nat.le_of_ble_eq_true rfl) hRl)⟩ rfl rfl hRc rfl rfl (Nat.le_of_ble_eq_true rfl) dX5_digest_18 ?_
    refine zr_lstore_n (lv' := [(1, .long r5), (0, .ref v0), (3, .int v3)]) C rfl (by decide) rfl dX5_digest_21 ?_
    refine zr_iinc (v := v3 + 1) (lv' := [(3, .int (v3 + 1)), (1, .long r5), (0, .ref v0)]) C 2 rfl rfl (by decide) rfl dX5_digest_22 ?_
    refine zr_goto (tgt := 6) C (by decide) dX5_digest_25 ?_
    obtain rfl := zso h
    refine zr_lv (lv' := [(0, .ref v0), (1, .long r5), (3, .int (v3 + 1))]) C [2, 1, 0] rfl ?_
    exact hg _ rfl
set_option maxHeartbeats 4000000 in
set_option maxRecDepth 100000 in
theorem w_X5_digest_6 (l : Launch) (D : va_G) (cy : Nat → ClassId) {L : List Nat} {K N : Nat → Nat} {F G : Nat → Nat → Nat} (hZ : ZL L K N F G) {p : Program} {e : Env} {R : Room} {s : State} {m : MethodId} {args : Array Value} {below : List Frame} {meth : Method} {c : Code} {cells slots : Nat} {Q : State → Prop} (C : ZC p s m args meth c cX5_digest yX5_digest.cls 4 D cy L K N F G) (hRf : 3 ≤ R.frames) (hRl : 63 ≤ R.locals) (hRc : cells ≤ R.cells ∧ slots ≤ R.slots)  (v0 : Nat) (k0 : K v0 = 5) (I : zH) (A : zH) (n : Nat) (x : Int64 × Int32) (o : Int64 × Int32) (h : zIt (fun x => g_X5_digest_6 F G v0 x.1 x.2 I A) n x = some o)
    (hx : ZW p l e R s m args below meth c 4 D cy L K N F G cells slots Q I A 28 [(0, .ref v0), (1, .long o.1), (3, .int o.2)] []) : ZW p l e R s m args below meth c 4 D cy L K N F G cells slots Q I A 6 [(0, .ref v0), (1, .long x.1), (3, .int x.2)] [] := by
  induction n generalizing x with
  | zero => cases h
  | succ n ih =>
    unfold zIt at h
    cases hb : g_X5_digest_6 F G v0 x.1 x.2 I A with
    | none => rw [hb] at h; cases h
    | some q =>
      rw [hb] at h
      refine wb_X5_digest_6 l D cy hZ C hRf hRl hRc v0 k0 I A x.1 x.2 q hb (fun y hy => ?_) (fun y hy => ?_)
      · subst hy; exact ih y h
      · subst hy; cases h; exact hx
set_option maxHeartbeats 4000000 in
set_option maxRecDepth 100000 in
theorem wb_X5_digest_30 (l : Launch) (D : va_G) (cy : Nat → ClassId) {L : List Nat} {K N : Nat → Nat} {F G : Nat → Nat → Nat} (hZ : ZL L K N F G) {p : Program} {e : Env} {R : Room} {s : State} {m : MethodId} {args : Array Value} {below : List Frame} {meth : Method} {c : Code} {cells slots : Nat} {Q : State → Prop} (C : ZC p s m args meth c cX5_digest yX5_digest.cls 4 D cy L K N F G) (hRf : 5 ≤ R.frames) (hRl : 116 ≤ R.locals) (hRc : cells ≤ R.cells ∧ slots ≤ R.slots)  (v0 : Nat) (k0 : K v0 = 5) (I : zH) (A : zH) (v1 : Int64) (v3 : Int32) (o : (Int64 × Int32) ⊕ (Int64 × Int32)) (h : g_X5_digest_30 F G v0 v1 v3 I A = some o)
    (hg : ∀ y : Int64 × Int32, o = .inl y → ZW p l e R s m args below meth c 4 D cy L K N F G cells slots Q I A 30 [(0, .ref v0), (1, .long y.1), (3, .int y.2)] [])
    (hx : ∀ y : Int64 × Int32, o = .inr y → ZW p l e R s m args below meth c 4 D cy L K N F G cells slots Q I A 51 [(0, .ref v0), (1, .long y.1), (3, .int y.2)] []) : ZW p l e R s m args below meth c 4 D cy L K N F G cells slots Q I A 30 [(0, .ref v0), (1, .long v1), (3, .int v3)] [] := by
  unfold g_X5_digest_30 at h
  refine zr_iload_n C 2 rfl rfl dX5_digest_30 ?_
  refine zr_aload_n C 0 rfl rfl dX5_digest_31 ?_
  refine zr_get (ci := 5) (k := 8) (v := .int (I v0 8)) C k0 (by decide) rfl zinX5 (by decide) wd_166 rfl dX5_digest_32 ?_
  refine zr_icmp_ge (tgt := 51) C (by decide) dX5_digest_35 (fun hc1 => ?_) (fun hc1 => ?_)
  · have h := zif_t hc1 h
    obtain rfl := zso h
    refine zr_lv (lv' := [(0, .ref v0), (1, .long v1), (3, .int v3)]) C [0, 1, 2] rfl ?_
    exact hx _ rfl
  · have h := zif_f hc1 h
    refine zr_aload_n C 0 rfl rfl dX5_digest_38 ?_
    refine zr_lload_n C 1 rfl rfl dX5_digest_39 ?_
    refine zr_iload_n C 2 rfl rfl dX5_digest_40 ?_
    obtain ⟨r2, h3, h⟩ := zb_e h
    refine zr_callVl (n := 2) (As := [.long v1, .int v3]) C (c_X5_foldPiece l D cy hZ v0 v1 v3 k0 I A h3) wd_603 wd_605 wp_23 wd_1 wd_606 (by decide +kernel) ⟨(Nat.le_trans (Nat.le_of_ble_eq_true rfl) hRf), (Nat.le_trans (Nat.le_of_ble_eq_true rfl) hRl)⟩ rfl rfl hRc k0 (by decide) rfl rfl rfl (Nat.le_of_ble_eq_true rfl) dX5_digest_41 ?_
    refine zr_lstore_n (lv' := [(1, .long r2), (0, .ref v0), (3, .int v3)]) C rfl (by decide) rfl dX5_digest_44 ?_
    refine zr_iinc (v := v3 + 1) (lv' := [(3, .int (v3 + 1)), (1, .long r2), (0, .ref v0)]) C 2 rfl rfl (by decide) rfl dX5_digest_45 ?_
    refine zr_goto (tgt := 30) C (by decide) dX5_digest_48 ?_
    obtain rfl := zso h
    refine zr_lv (lv' := [(0, .ref v0), (1, .long r2), (3, .int (v3 + 1))]) C [2, 1, 0] rfl ?_
    exact hg _ rfl
set_option maxHeartbeats 4000000 in
set_option maxRecDepth 100000 in
theorem w_X5_digest_30 (l : Launch) (D : va_G) (cy : Nat → ClassId) {L : List Nat} {K N : Nat → Nat} {F G : Nat → Nat → Nat} (hZ : ZL L K N F G) {p : Program} {e : Env} {R : Room} {s : State} {m : MethodId} {args : Array Value} {below : List Frame} {meth : Method} {c : Code} {cells slots : Nat} {Q : State → Prop} (C : ZC p s m args meth c cX5_digest yX5_digest.cls 4 D cy L K N F G) (hRf : 5 ≤ R.frames) (hRl : 116 ≤ R.locals) (hRc : cells ≤ R.cells ∧ slots ≤ R.slots)  (v0 : Nat) (k0 : K v0 = 5) (I : zH) (A : zH) (n : Nat) (x : Int64 × Int32) (o : Int64 × Int32) (h : zIt (fun x => g_X5_digest_30 F G v0 x.1 x.2 I A) n x = some o)
    (hx : ZW p l e R s m args below meth c 4 D cy L K N F G cells slots Q I A 51 [(0, .ref v0), (1, .long o.1), (3, .int o.2)] []) : ZW p l e R s m args below meth c 4 D cy L K N F G cells slots Q I A 30 [(0, .ref v0), (1, .long x.1), (3, .int x.2)] [] := by
  induction n generalizing x with
  | zero => cases h
  | succ n ih =>
    unfold zIt at h
    cases hb : g_X5_digest_30 F G v0 x.1 x.2 I A with
    | none => rw [hb] at h; cases h
    | some q =>
      rw [hb] at h
      refine wb_X5_digest_30 l D cy hZ C hRf hRl hRc v0 k0 I A x.1 x.2 q hb (fun y hy => ?_) (fun y hy => ?_)
      · subst hy; exact ih y h
      · subst hy; cases h; exact hx
set_option maxHeartbeats 4000000 in
set_option maxRecDepth 100000 in
theorem wb_X5_digest_53 (l : Launch) (D : va_G) (cy : Nat → ClassId) {L : List Nat} {K N : Nat → Nat} {F G : Nat → Nat → Nat} (hZ : ZL L K N F G) {p : Program} {e : Env} {R : Room} {s : State} {m : MethodId} {args : Array Value} {below : List Frame} {meth : Method} {c : Code} {cells slots : Nat} {Q : State → Prop} (C : ZC p s m args meth c cX5_digest yX5_digest.cls 4 D cy L K N F G) (hRf : 4 ≤ R.frames) (hRl : 93 ≤ R.locals) (hRc : cells ≤ R.cells ∧ slots ≤ R.slots)  (v0 : Nat) (k0 : K v0 = 5) (I : zH) (A : zH) (v1 : Int64) (v3 : Int32) (o : (Int64 × Int32) ⊕ (Int64 × Int32)) (h : g_X5_digest_53 F G v0 v1 v3 I A = some o)
    (hg : ∀ y : Int64 × Int32, o = .inl y → ZW p l e R s m args below meth c 4 D cy L K N F G cells slots Q I A 53 [(0, .ref v0), (1, .long y.1), (3, .int y.2)] [])
    (hx : ∀ y : Int64 × Int32, o = .inr y → ZW p l e R s m args below meth c 4 D cy L K N F G cells slots Q I A 74 [(0, .ref v0), (1, .long y.1), (3, .int y.2)] []) : ZW p l e R s m args below meth c 4 D cy L K N F G cells slots Q I A 53 [(0, .ref v0), (1, .long v1), (3, .int v3)] [] := by
  unfold g_X5_digest_53 at h
  refine zr_iload_n C 2 rfl rfl dX5_digest_53 ?_
  refine zr_aload_n C 0 rfl rfl dX5_digest_54 ?_
  refine zr_get (ci := 5) (k := 9) (v := .int (I v0 9)) C k0 (by decide) rfl zinX5 (by decide) wd_167 rfl dX5_digest_55 ?_
  refine zr_icmp_ge (tgt := 74) C (by decide) dX5_digest_58 (fun hc1 => ?_) (fun hc1 => ?_)
  · have h := zif_t hc1 h
    obtain rfl := zso h
    refine zr_lv (lv' := [(0, .ref v0), (1, .long v1), (3, .int v3)]) C [0, 1, 2] rfl ?_
    exact hx _ rfl
  · have h := zif_f hc1 h
    refine zr_aload_n C 0 rfl rfl dX5_digest_61 ?_
    refine zr_lload_n C 1 rfl rfl dX5_digest_62 ?_
    refine zr_iload_n C 2 rfl rfl dX5_digest_63 ?_
    obtain ⟨r2, h3, h⟩ := zb_e h
    refine zr_callVl (n := 2) (As := [.long v1, .int v3]) C (c_X5_foldLicence l D cy hZ v0 v1 v3 k0 I A h3) wd_613 wd_615 wp_24 wd_1 wd_616 (by decide +kernel) ⟨(Nat.le_trans (Nat.le_of_ble_eq_true rfl) hRf), (Nat.le_trans (Nat.le_of_ble_eq_true rfl) hRl)⟩ rfl rfl hRc k0 (by decide) rfl rfl rfl (Nat.le_of_ble_eq_true rfl) dX5_digest_64 ?_
    refine zr_lstore_n (lv' := [(1, .long r2), (0, .ref v0), (3, .int v3)]) C rfl (by decide) rfl dX5_digest_67 ?_
    refine zr_iinc (v := v3 + 1) (lv' := [(3, .int (v3 + 1)), (1, .long r2), (0, .ref v0)]) C 2 rfl rfl (by decide) rfl dX5_digest_68 ?_
    refine zr_goto (tgt := 53) C (by decide) dX5_digest_71 ?_
    obtain rfl := zso h
    refine zr_lv (lv' := [(0, .ref v0), (1, .long r2), (3, .int (v3 + 1))]) C [2, 1, 0] rfl ?_
    exact hg _ rfl
set_option maxHeartbeats 4000000 in
set_option maxRecDepth 100000 in
theorem w_X5_digest_53 (l : Launch) (D : va_G) (cy : Nat → ClassId) {L : List Nat} {K N : Nat → Nat} {F G : Nat → Nat → Nat} (hZ : ZL L K N F G) {p : Program} {e : Env} {R : Room} {s : State} {m : MethodId} {args : Array Value} {below : List Frame} {meth : Method} {c : Code} {cells slots : Nat} {Q : State → Prop} (C : ZC p s m args meth c cX5_digest yX5_digest.cls 4 D cy L K N F G) (hRf : 4 ≤ R.frames) (hRl : 93 ≤ R.locals) (hRc : cells ≤ R.cells ∧ slots ≤ R.slots)  (v0 : Nat) (k0 : K v0 = 5) (I : zH) (A : zH) (n : Nat) (x : Int64 × Int32) (o : Int64 × Int32) (h : zIt (fun x => g_X5_digest_53 F G v0 x.1 x.2 I A) n x = some o)
    (hx : ZW p l e R s m args below meth c 4 D cy L K N F G cells slots Q I A 74 [(0, .ref v0), (1, .long o.1), (3, .int o.2)] []) : ZW p l e R s m args below meth c 4 D cy L K N F G cells slots Q I A 53 [(0, .ref v0), (1, .long x.1), (3, .int x.2)] [] := by
  induction n generalizing x with
  | zero => cases h
  | succ n ih =>
    unfold zIt at h
    cases hb : g_X5_digest_53 F G v0 x.1 x.2 I A with
    | none => rw [hb] at h; cases h
    | some q =>
      rw [hb] at h
      refine wb_X5_digest_53 l D cy hZ C hRf hRl hRc v0 k0 I A x.1 x.2 q hb (fun y hy => ?_) (fun y hy => ?_)
      · subst hy; exact ih y h
      · subst hy; cases h; exact hx
set_option maxHeartbeats 4000000 in
set_option maxRecDepth 100000 in
theorem wb_X5_digest_76 (l : Launch) (D : va_G) (cy : Nat → ClassId) {L : List Nat} {K N : Nat → Nat} {F G : Nat → Nat → Nat} (hZ : ZL L K N F G) {p : Program} {e : Env} {R : Room} {s : State} {m : MethodId} {args : Array Value} {below : List Frame} {meth : Method} {c : Code} {cells slots : Nat} {Q : State → Prop} (C : ZC p s m args meth c cX5_digest yX5_digest.cls 4 D cy L K N F G) (hRf : 6 ≤ R.frames) (hRl : 145 ≤ R.locals) (hRc : cells ≤ R.cells ∧ slots ≤ R.slots)  (v0 : Nat) (k0 : K v0 = 5) (I : zH) (v1 : Int64) (v3 : Int32) (A : zH) (o : (Int64 × Int32 × zH) ⊕ (Int64 × Int32 × zH)) (h : g_X5_digest_76 F G v0 v1 v3 A I = some o)
    (hg : ∀ y : Int64 × Int32 × zH, o = .inl y → ZW p l e R s m args below meth c 4 D cy L K N F G cells slots Q I y.2.2 76 [(0, .ref v0), (1, .long y.1), (3, .int y.2.1)] [])
    (hx : ∀ y : Int64 × Int32 × zH, o = .inr y → ZW p l e R s m args below meth c 4 D cy L K N F G cells slots Q I y.2.2 97 [(0, .ref v0), (1, .long y.1), (3, .int y.2.1)] []) : ZW p l e R s m args below meth c 4 D cy L K N F G cells slots Q I A 76 [(0, .ref v0), (1, .long v1), (3, .int v3)] [] := by
  unfold g_X5_digest_76 at h
  refine zr_iload_n C 2 rfl rfl dX5_digest_76 ?_
  refine zr_aload_n C 0 rfl rfl dX5_digest_77 ?_
  refine zr_get (ci := 5) (k := 10) (v := .int (I v0 10)) C k0 (by decide) rfl zinX5 (by decide) wd_168 rfl dX5_digest_78 ?_
  refine zr_icmp_ge (tgt := 97) C (by decide) dX5_digest_81 (fun hc1 => ?_) (fun hc1 => ?_)
  · have h := zif_t hc1 h
    obtain rfl := zso h
    refine zr_lv (lv' := [(0, .ref v0), (1, .long v1), (3, .int v3)]) C [0, 1, 2] rfl ?_
    exact hx _ rfl
  · have h := zif_f hc1 h
    refine zr_aload_n C 0 rfl rfl dX5_digest_84 ?_
    refine zr_lload_n C 1 rfl rfl dX5_digest_85 ?_
    refine zr_iload_n C 2 rfl rfl dX5_digest_86 ?_
    obtain ⟨r2, A3, h4, h⟩ := zb2_e h
    refine zr_callVl (n := 2) (As := [.long v1, .int v3]) C (c_X5_foldProject l D cy hZ v0 v1 v3 k0 I A h4) wd_618 wd_620 wp_25 wd_1 wd_621 (by decide +kernel) ⟨(Nat.le_trans (Nat.le_of_ble_eq_true rfl) hRf), (Nat.le_trans (Nat.le_of_ble_eq_true rfl) hRl)⟩ rfl rfl hRc k0 (by decide) rfl rfl rfl (Nat.le_of_ble_eq_true rfl) dX5_digest_87 ?_
    refine zr_lstore_n (lv' := [(1, .long r2), (0, .ref v0), (3, .int v3)]) C rfl (by decide) rfl dX5_digest_90 ?_
    refine zr_iinc (v := v3 + 1) (lv' := [(3, .int (v3 + 1)), (1, .long r2), (0, .ref v0)]) C 2 rfl rfl (by decide) rfl dX5_digest_91 ?_
    refine zr_goto (tgt := 76) C (by decide) dX5_digest_94 ?_
    obtain rfl := zso h
    refine zr_lv (lv' := [(0, .ref v0), (1, .long r2), (3, .int (v3 + 1))]) C [2, 1, 0] rfl ?_
    exact hg _ rfl
set_option maxHeartbeats 4000000 in
set_option maxRecDepth 100000 in
theorem w_X5_digest_76 (l : Launch) (D : va_G) (cy : Nat → ClassId) {L : List Nat} {K N : Nat → Nat} {F G : Nat → Nat → Nat} (hZ : ZL L K N F G) {p : Program} {e : Env} {R : Room} {s : State} {m : MethodId} {args : Array Value} {below : List Frame} {meth : Method} {c : Code} {cells slots : Nat} {Q : State → Prop} (C : ZC p s m args meth c cX5_digest yX5_digest.cls 4 D cy L K N F G) (hRf : 6 ≤ R.frames) (hRl : 145 ≤ R.locals) (hRc : cells ≤ R.cells ∧ slots ≤ R.slots)  (v0 : Nat) (k0 : K v0 = 5) (I : zH) (n : Nat) (x : Int64 × Int32 × zH) (o : Int64 × Int32 × zH) (h : zIt (fun x => g_X5_digest_76 F G v0 x.1 x.2.1 x.2.2 I) n x = some o)
    (hx : ZW p l e R s m args below meth c 4 D cy L K N F G cells slots Q I o.2.2 97 [(0, .ref v0), (1, .long o.1), (3, .int o.2.1)] []) : ZW p l e R s m args below meth c 4 D cy L K N F G cells slots Q I x.2.2 76 [(0, .ref v0), (1, .long x.1), (3, .int x.2.1)] [] := by
  induction n generalizing x with
  | zero => cases h
  | succ n ih =>
    unfold zIt at h
    cases hb : g_X5_digest_76 F G v0 x.1 x.2.1 x.2.2 I with
    | none => rw [hb] at h; cases h
    | some q =>
      rw [hb] at h
      refine wb_X5_digest_76 l D cy hZ C hRf hRl hRc v0 k0 I x.1 x.2.1 x.2.2 q hb (fun y hy => ?_) (fun y hy => ?_)
      · subst hy; exact ih y h
      · subst hy; cases h; exact hx
set_option maxHeartbeats 4000000 in
set_option maxRecDepth 100000 in
theorem c_X5_digest (l : Launch) (D : va_G) (cy : Nat → ClassId) {L : List Nat} {K N : Nat → Nat} {F G : Nat → Nat → Nat} (hZ : ZL L K N F G) (h0 : Nat) (k_h0 : K h0 = 5) (I A : zH) {r : Int64} {B' : zH} (h : f_X5_digest F G h0 I A = some (r, B')) : ZMl l yX5_digest cX5_digest 4 (some .long) { frames := 6, cells := 0, slots := 0, locals := 145 } D cy L K N F G [.ref h0] I A r I B' := by
  refine ZMl.of (nL := 4) hZ rfl rfl (by decide) (Nat.le_of_ble_eq_true rfl) (fun p e s m args below meth c C hr => ?_)
  unfold f_X5_digest at h
  refine zr_lv (lv' := [(0, .ref h0)]) C [0] rfl ?_
  refine zr_ldc2 (v := 58109) C wd_597 dX5_digest_0 ?_
  refine zr_lstore_n (lv' := [(1, .long 58109), (0, .ref h0)]) C rfl (by decide) rfl dX5_digest_3 ?_
  refine zr_iconst (v := 0) C (by decide) dX5_digest_4 ?_
  refine zr_istore_n (lv' := [(3, .int 0), (1, .long 58109), (0, .ref h0)]) C rfl (by decide) rfl dX5_digest_5 ?_
  obtain ⟨j1, i2, h27, h⟩ := zb2_e h
  refine zr_lv (lv' := [(0, .ref h0), (1, .long 58109), (3, .int 0)]) C [2, 1, 0] rfl ?_
  refine w_X5_digest_6 l D cy hZ C (Nat.le_of_ble_eq_true rfl) (Nat.le_of_ble_eq_true rfl) ⟨Nat.le_of_ble_eq_true rfl, Nat.le_of_ble_eq_true rfl⟩ h0 k_h0 I A 2000 (58109, 0) (j1, i2) h27 ?_
  refine zr_iconst (v := 0) C (by decide) dX5_digest_28 ?_
  refine zr_istore_n (lv' := [(3, .int 0), (0, .ref h0), (1, .long j1)]) C rfl (by decide) rfl dX5_digest_29 ?_
  obtain ⟨j3, i4, h26, h⟩ := zb2_e h
  refine zr_lv (lv' := [(0, .ref h0), (1, .long j1), (3, .int 0)]) C [1, 2, 0] rfl ?_
  refine w_X5_digest_30 l D cy hZ C (Nat.le_of_ble_eq_true rfl) (Nat.le_of_ble_eq_true rfl) ⟨Nat.le_of_ble_eq_true rfl, Nat.le_of_ble_eq_true rfl⟩ h0 k_h0 I A 2000 (j1, 0) (j3, i4) h26 ?_
  refine zr_iconst (v := 0) C (by decide) dX5_digest_51 ?_
  refine zr_istore_n (lv' := [(3, .int 0), (0, .ref h0), (1, .long j3)]) C rfl (by decide) rfl dX5_digest_52 ?_
  obtain ⟨j5, i6, h25, h⟩ := zb2_e h
  refine zr_lv (lv' := [(0, .ref h0), (1, .long j3), (3, .int 0)]) C [1, 2, 0] rfl ?_
  refine w_X5_digest_53 l D cy hZ C (Nat.le_of_ble_eq_true rfl) (Nat.le_of_ble_eq_true rfl) ⟨Nat.le_of_ble_eq_true rfl, Nat.le_of_ble_eq_true rfl⟩ h0 k_h0 I A 2000 (j3, 0) (j5, i6) h25 ?_
  refine zr_iconst (v := 0) C (by decide) dX5_digest_74 ?_
  refine zr_istore_n (lv' := [(3, .int 0), (0, .ref h0), (1, .long j5)]) C rfl (by decide) rfl dX5_digest_75 ?_
  obtain ⟨j7, i8, A9, h24, h⟩ := zb3_e h
  refine zr_lv (lv' := [(0, .ref h0), (1, .long j5), (3, .int 0)]) C [1, 2, 0] rfl ?_
  refine w_X5_digest_76 l D cy hZ C (Nat.le_of_ble_eq_true rfl) (Nat.le_of_ble_eq_true rfl) ⟨Nat.le_of_ble_eq_true rfl, Nat.le_of_ble_eq_true rfl⟩ h0 k_h0 I  2000 (j5, 0, A) (j7, i8, A9) h24 ?_
  refine zr_lload_n C 1 rfl rfl dX5_digest_97 ?_
  refine zr_aload_n C 0 rfl rfl dX5_digest_98 ?_
  refine zr_bipush (v := 30) C (by decide) dX5_digest_99 ?_
  obtain ⟨r10, A11, h12, h⟩ := zb2_e h
  refine zr_callVi (n := 1) (As := [.int 30]) C (c_X5_boundWith l D cy hZ h0 30 k_h0 I A9 h12) wd_638 wd_639 wd_640 wd_1 wd_641 (by decide +kernel) ⟨(Nat.le_of_ble_eq_true rfl), (Nat.le_of_ble_eq_true rfl)⟩ rfl rfl ⟨Nat.le_of_ble_eq_true rfl, Nat.le_of_ble_eq_true rfl⟩ k_h0 (by decide) rfl rfl rfl (Nat.le_of_ble_eq_true rfl) dX5_digest_101 ?_
  obtain ⟨r14, h15, h⟩ := zb_e h
  refine zr_callSl (n := 2) (As := [.long j7, .int r10]) C (c_X5_fold l D cy hZ j7 r10 I A11 h15) wd_599 wd_600 wd_1 wd_601 (by decide +kernel) ⟨(Nat.le_of_ble_eq_true rfl), (Nat.le_of_ble_eq_true rfl)⟩ rfl rfl ⟨Nat.le_of_ble_eq_true rfl, Nat.le_of_ble_eq_true rfl⟩ rfl rfl (Nat.le_of_ble_eq_true rfl) dX5_digest_104 ?_
  refine zr_lstore_n (lv' := [(1, .long r14), (0, .ref h0), (3, .int i8)]) C rfl (by decide) rfl dX5_digest_107 ?_
  refine zr_lload_n C 0 rfl rfl dX5_digest_108 ?_
  refine zr_aload_n C 1 rfl rfl dX5_digest_109 ?_
  refine zr_bipush (v := 90) C (by decide) dX5_digest_110 ?_
  obtain ⟨r17, A18, h19, h⟩ := zb2_e h
  refine zr_callVi (n := 1) (As := [.int 90]) C (c_X5_boundWith l D cy hZ h0 90 k_h0 I A11 h19) wd_638 wd_639 wd_640 wd_1 wd_641 (by decide +kernel) ⟨(Nat.le_of_ble_eq_true rfl), (Nat.le_of_ble_eq_true rfl)⟩ rfl rfl ⟨Nat.le_of_ble_eq_true rfl, Nat.le_of_ble_eq_true rfl⟩ k_h0 (by decide) rfl rfl rfl (Nat.le_of_ble_eq_true rfl) dX5_digest_112 ?_
  obtain ⟨r21, h22, h⟩ := zb_e h
  refine zr_callSl (n := 2) (As := [.long r14, .int r17]) C (c_X5_fold l D cy hZ r14 r17 I A18 h22) wd_599 wd_600 wd_1 wd_601 (by decide +kernel) ⟨(Nat.le_of_ble_eq_true rfl), (Nat.le_of_ble_eq_true rfl)⟩ rfl rfl ⟨Nat.le_of_ble_eq_true rfl, Nat.le_of_ble_eq_true rfl⟩ rfl rfl (Nat.le_of_ble_eq_true rfl) dX5_digest_115 ?_
  cases zso h
  exact zr_lret C hr dX5_digest_118

def f_X5_token (F G : Nat → Nat → Nat) (h0 : Nat) (p0 : Int32) (I A : zH) : Option (Int32 × zH × zH) :=
  if p0 < 0 then (
    none
  ) else (
    if p0 < 30 then (
      if (I (F h0 0) 2) < 12 then (
        zb2 (f_X4_append F G (F h0 0) p0 I A) fun I4 A5 =>
        some (I4 (F h0 0) 2, I4, A5)
      ) else (
        none
      )
    ) else (
      none
    )
  )
set_option maxHeartbeats 4000000 in
set_option maxRecDepth 100000 in
theorem c_X5_token (l : Launch) (D : va_G) (cy : Nat → ClassId) {L : List Nat} {K N : Nat → Nat} {F G : Nat → Nat → Nat} (hZ : ZL L K N F G) (h0 : Nat) (p0 : Int32) (k_h0 : K h0 = 5) (I A : zH) {r : Int32} {J' : zH} {B' : zH} (h : f_X5_token F G h0 p0 I A = some (r, J', B')) : ZMi l yX5_token cX5_token 2 (some .int) { frames := 4, cells := 0, slots := 0, locals := 90 } D cy L K N F G [.ref h0, .int p0] I A r J' B' := by
  refine ZMi.of (nL := 2) hZ rfl rfl (by decide) (Nat.le_of_ble_eq_true rfl) (fun p e s m args below meth c C hr => ?_)
  unfold f_X5_token at h
  refine zr_lv (lv' := [(0, .ref h0), (1, .int p0)]) C [0, 1] rfl ?_
  refine zr_iload_n C 1 rfl rfl dX5_token_0 ?_
  refine zr_if_lt (tgt := 10) C (by decide) dX5_token_1 (fun hc1 => ?_) (fun hc1 => ?_)
  · have h := zif_t hc1 h
    exact zno h
  · have h := zif_f hc1 h
    refine zr_iload_n C 1 rfl rfl dX5_token_4 ?_
    refine zr_bipush (v := 30) C (by decide) dX5_token_5 ?_
    refine zr_icmp_lt (tgt := 20) C (by decide) dX5_token_7 (fun hc2 => ?_) (fun hc2 => ?_)
    · have h := zif_t hc2 h
      refine zr_aload_n C 0 rfl rfl dX5_token_20 ?_
      refine zr_get (ci := 5) (k := 0) (v := .ref (F h0 0)) C k_h0 (by decide) rfl zinX5 (by decide) wd_158 rfl dX5_token_21 ?_
      refine zr_get (ci := 4) (k := 2) (v := .int (I (F h0 0) 2)) C (zt50 hZ k_h0) (by decide) rfl zinX4 (by decide) wd_32 rfl dX5_token_24 ?_
      refine zr_bipush (v := 12) C (by decide) dX5_token_27 ?_
      refine zr_icmp_lt (tgt := 42) C (by decide) dX5_token_29 (fun hc3 => ?_) (fun hc3 => ?_)
      · have h := zif_t hc3 h
        refine zr_aload_n C 0 rfl rfl dX5_token_42 ?_
        refine zr_get (ci := 5) (k := 0) (v := .ref (F h0 0)) C k_h0 (by decide) rfl zinX5 (by decide) wd_158 rfl dX5_token_43 ?_
        refine zr_iload_n C 1 rfl rfl dX5_token_46 ?_
        obtain ⟨I4, A5, h6, h⟩ := zb2_e h
        refine zr_callVv (n := 1) (As := [.int p0]) C (c_X4_append l D cy hZ (F h0 0) p0 (zt50 hZ k_h0) I A h6) wd_554 wd_555 wd_556 wd_2 wd_557 (by decide +kernel) ⟨(Nat.le_of_ble_eq_true rfl), (Nat.le_of_ble_eq_true rfl)⟩ rfl rfl ⟨Nat.le_of_ble_eq_true rfl, Nat.le_of_ble_eq_true rfl⟩ (zt50 hZ k_h0) (by decide) rfl rfl rfl (Nat.le_of_ble_eq_true rfl) dX5_token_47 ?_
        refine zr_aload_n C 0 rfl rfl dX5_token_50 ?_
        refine zr_get (ci := 5) (k := 0) (v := .ref (F h0 0)) C k_h0 (by decide) rfl zinX5 (by decide) wd_158 rfl dX5_token_51 ?_
        refine zr_get (ci := 4) (k := 2) (v := .int (I4 (F h0 0) 2)) C (zt50 hZ k_h0) (by decide) rfl zinX4 (by decide) wd_32 rfl dX5_token_54 ?_
        cases zso h
        exact zr_iret C hr dX5_token_57
      · have h := zif_f hc3 h
        exact zno h
    · have h := zif_f hc2 h
      exact zno h

def f_X5_cut (F G : Nat → Nat → Nat) (h0 : Nat) (p0 : Int32) (I A : zH) : Option (Int32 × zH × zH) :=
  if p0 < 1 then (
    none
  ) else (
    if p0 ≤ 12 then (
      zb2 (f_X4_dropFirst F G (F h0 0) p0 I A) fun I3 A4 =>
      some (I3 (F h0 0) 2, I3, A4)
    ) else (
      none
    )
  )
set_option maxHeartbeats 4000000 in
set_option maxRecDepth 100000 in
theorem c_X5_cut (l : Launch) (D : va_G) (cy : Nat → ClassId) {L : List Nat} {K N : Nat → Nat} {F G : Nat → Nat → Nat} (hZ : ZL L K N F G) (h0 : Nat) (p0 : Int32) (k_h0 : K h0 = 5) (I A : zH) {r : Int32} {J' : zH} {B' : zH} (h : f_X5_cut F G h0 p0 I A = some (r, J', B')) : ZMi l yX5_cut cX5_cut 2 (some .int) { frames := 4, cells := 0, slots := 0, locals := 92 } D cy L K N F G [.ref h0, .int p0] I A r J' B' := by
  refine ZMi.of (nL := 2) hZ rfl rfl (by decide) (Nat.le_of_ble_eq_true rfl) (fun p e s m args below meth c C hr => ?_)
  unfold f_X5_cut at h
  refine zr_lv (lv' := [(0, .ref h0), (1, .int p0)]) C [0, 1] rfl ?_
  refine zr_iload_n C 1 rfl rfl dX5_cut_0 ?_
  refine zr_iconst (v := 1) C (by decide) dX5_cut_1 ?_
  refine zr_icmp_lt (tgt := 11) C (by decide) dX5_cut_2 (fun hc1 => ?_) (fun hc1 => ?_)
  · have h := zif_t hc1 h
    exact zno h
  · have h := zif_f hc1 h
    refine zr_iload_n C 1 rfl rfl dX5_cut_5 ?_
    refine zr_bipush (v := 12) C (by decide) dX5_cut_6 ?_
    refine zr_icmp_le (tgt := 21) C (by decide) dX5_cut_8 (fun hc2 => ?_) (fun hc2 => ?_)
    · have h := zif_t hc2 h
      refine zr_aload_n C 0 rfl rfl dX5_cut_21 ?_
      refine zr_get (ci := 5) (k := 0) (v := .ref (F h0 0)) C k_h0 (by decide) rfl zinX5 (by decide) wd_158 rfl dX5_cut_22 ?_
      refine zr_iload_n C 1 rfl rfl dX5_cut_25 ?_
      obtain ⟨I3, A4, h5, h⟩ := zb2_e h
      refine zr_callVv (n := 1) (As := [.int p0]) C (c_X4_dropFirst l D cy hZ (F h0 0) p0 (zt50 hZ k_h0) I A h5) wd_563 wd_564 wd_565 wd_2 wd_566 (by decide +kernel) ⟨(Nat.le_of_ble_eq_true rfl), (Nat.le_of_ble_eq_true rfl)⟩ rfl rfl ⟨Nat.le_of_ble_eq_true rfl, Nat.le_of_ble_eq_true rfl⟩ (zt50 hZ k_h0) (by decide) rfl rfl rfl (Nat.le_of_ble_eq_true rfl) dX5_cut_26 ?_
      refine zr_aload_n C 0 rfl rfl dX5_cut_29 ?_
      refine zr_get (ci := 5) (k := 0) (v := .ref (F h0 0)) C k_h0 (by decide) rfl zinX5 (by decide) wd_158 rfl dX5_cut_30 ?_
      refine zr_get (ci := 4) (k := 2) (v := .int (I3 (F h0 0) 2)) C (zt50 hZ k_h0) (by decide) rfl zinX4 (by decide) wd_32 rfl dX5_cut_33 ?_
      cases zso h
      exact zr_iret C hr dX5_cut_36
    · have h := zif_f hc2 h
      exact zno h

def f_X5_copy (F G : Nat → Nat → Nat) (h0 : Nat) (p0 : Int32) (p1 : Int32) (I A : zH) : Option (Int32 × zH × zH) :=
  zb (f_X5_needPiece F G h0 p0 I A) fun _ =>
  if p1 < 0 then (
    none
  ) else (
    if p1 < 10 then (
      zck (¬ (p0 < 0 ∨ 16 ≤ p0.toNatClampNeg)) <|
      zb2 (f_X4_become F G (F h0 0) (F (G (F h0 1) p0.toNatClampNeg) 0) p1 I A) fun I6 A7 =>
      some (I6 (F h0 0) 2, I6, A7)
    ) else (
      none
    )
  )
set_option maxHeartbeats 4000000 in
set_option maxRecDepth 100000 in
theorem c_X5_copy (l : Launch) (D : va_G) (cy : Nat → ClassId) {L : List Nat} {K N : Nat → Nat} {F G : Nat → Nat → Nat} (hZ : ZL L K N F G) (h0 : Nat) (p0 : Int32) (p1 : Int32) (k_h0 : K h0 = 5) (I A : zH) {r : Int32} {J' : zH} {B' : zH} (h : f_X5_copy F G h0 p0 p1 I A = some (r, J', B')) : ZMi l yX5_copy cX5_copy 3 (some .int) { frames := 4, cells := 0, slots := 0, locals := 93 } D cy L K N F G [.ref h0, .int p0, .int p1] I A r J' B' := by
  refine ZMi.of (nL := 3) hZ rfl rfl (by decide) (Nat.le_of_ble_eq_true rfl) (fun p e s m args below meth c C hr => ?_)
  unfold f_X5_copy at h
  refine zr_lv (lv' := [(0, .ref h0), (1, .int p0), (2, .int p1)]) C [0, 1, 2] rfl ?_
  refine zr_aload_n C 0 rfl rfl dX5_copy_0 ?_
  refine zr_iload_n C 1 rfl rfl dX5_copy_1 ?_
  obtain ⟨_, h1, h⟩ := zb_e h
  refine zr_callVv (n := 1) (As := [.int p0]) C (c_X5_needPiece l D cy hZ h0 p0 k_h0 I A h1) wd_368 wd_370 wp_10 wd_1 wd_371 (by decide +kernel) ⟨(Nat.le_of_ble_eq_true rfl), (Nat.le_of_ble_eq_true rfl)⟩ rfl rfl ⟨Nat.le_of_ble_eq_true rfl, Nat.le_of_ble_eq_true rfl⟩ k_h0 (by decide) rfl rfl rfl (Nat.le_of_ble_eq_true rfl) dX5_copy_2 ?_
  refine zr_iload_n C 2 rfl rfl dX5_copy_5 ?_
  refine zr_if_lt (tgt := 15) C (by decide) dX5_copy_6 (fun hc3 => ?_) (fun hc3 => ?_)
  · have h := zif_t hc3 h
    exact zno h
  · have h := zif_f hc3 h
    refine zr_iload_n C 2 rfl rfl dX5_copy_9 ?_
    refine zr_bipush (v := 10) C (by decide) dX5_copy_10 ?_
    refine zr_icmp_lt (tgt := 25) C (by decide) dX5_copy_12 (fun hc4 => ?_) (fun hc4 => ?_)
    · have h := zif_t hc4 h
      refine zr_aload_n C 0 rfl rfl dX5_copy_25 ?_
      refine zr_get (ci := 5) (k := 0) (v := .ref (F h0 0)) C k_h0 (by decide) rfl zinX5 (by decide) wd_158 rfl dX5_copy_26 ?_
      refine zr_aload_n C 0 rfl rfl dX5_copy_29 ?_
      refine zr_get (ci := 5) (k := 1) (v := .ref (F h0 1)) C k_h0 (by decide) rfl zinX5 (by decide) wd_159 rfl dX5_copy_30 ?_
      refine zr_iload_n C 1 rfl rfl dX5_copy_33 ?_
      obtain ⟨hc5, h⟩ := zck_e h
      refine zr_ald8 C (zt51 hZ k_h0).1 (zt51 hZ k_h0).2 hc5 dX5_copy_34 ?_
      refine zr_get (ci := 2) (k := 0) (v := .ref (F (G (F h0 1) p0.toNatClampNeg) 0)) C (zt8 hZ (zt51 hZ k_h0).1 (z_ix (zt51 hZ k_h0).2 hc5)) (by decide) rfl zinX2 (by decide) wd_80 rfl dX5_copy_35 ?_
      refine zr_iload_n C 2 rfl rfl dX5_copy_38 ?_
      obtain ⟨I6, A7, h8, h⟩ := zb2_e h
      refine zr_callVv (n := 2) (As := [.ref (F (G (F h0 1) p0.toNatClampNeg) 0), .int p1]) C (c_X4_become l D cy hZ (F h0 0) (F (G (F h0 1) p0.toNatClampNeg) 0) p1 (zt50 hZ k_h0) (zt2 hZ (zt8 hZ (zt51 hZ k_h0).1 (z_ix (zt51 hZ k_h0).2 hc5))) I A h8) wd_271 wd_272 wd_273 wd_2 wd_274 (by decide +kernel) ⟨(Nat.le_of_ble_eq_true rfl), (Nat.le_of_ble_eq_true rfl)⟩ rfl rfl ⟨Nat.le_of_ble_eq_true rfl, Nat.le_of_ble_eq_true rfl⟩ (zt50 hZ k_h0) (by decide) rfl rfl rfl (Nat.le_of_ble_eq_true rfl) dX5_copy_39 ?_
      refine zr_aload_n C 0 rfl rfl dX5_copy_42 ?_
      refine zr_get (ci := 5) (k := 0) (v := .ref (F h0 0)) C k_h0 (by decide) rfl zinX5 (by decide) wd_158 rfl dX5_copy_43 ?_
      refine zr_get (ci := 4) (k := 2) (v := .int (I6 (F h0 0) 2)) C (zt50 hZ k_h0) (by decide) rfl zinX4 (by decide) wd_32 rfl dX5_copy_46 ?_
      cases zso h
      exact zr_iret C hr dX5_copy_49
    · have h := zif_f hc4 h
      exact zno h

def g_X5_takeShares_12 (F G : Nat → Nat → Nat) (v0 : Nat) (v1 : Int32) (v2 : Nat) (v3 : Int32) (A : zH) (I : zH) : Option ((Int32 × zH) ⊕ (Int32 × zH)) :=
  if v1 < v3 then (
    some (.inr (v3, A))
  ) else (
    zck (¬ (v3 < 0 ∨ 16 ≤ v3.toNatClampNeg)) <|
    zb (f_X4_shareWith F G v2 (F (G (F v0 1) v3.toNatClampNeg) 0) I A) fun r3 =>
    zck (¬ (v1 < 0 ∨ 16 ≤ v1.toNatClampNeg)) <|
    zck (¬ (v3 < 0 ∨ 16 ≤ v3.toNatClampNeg)) <|
    zlet (up2 A (G (F v0 2) v1.toNatClampNeg) v3.toNatClampNeg r3) fun A8 =>
    zck (¬ (v3 < 0 ∨ 16 ≤ v3.toNatClampNeg)) <|
    zck (¬ (v1 < 0 ∨ 16 ≤ v1.toNatClampNeg)) <|
    zlet (up2 A8 (G (F v0 2) v3.toNatClampNeg) v1.toNatClampNeg r3) fun A11 =>
    some (.inl (v3 + 1, A11))
  )
def f_X5_takeShares (F G : Nat → Nat → Nat) (h0 : Nat) (p0 : Int32) (I A : zH) : Option (zH) :=
  zck (¬ (p0 < 0 ∨ 16 ≤ p0.toNatClampNeg)) <|
  zb2 (zIt (fun x => g_X5_takeShares_12 F G h0 p0 (F (G (F h0 1) p0.toNatClampNeg) 0) x.1 x.2 I ) 2000 (0, A)) fun i2 A3 =>
  some A3
set_option maxHeartbeats 4000000 in
set_option maxRecDepth 100000 in
theorem wb_X5_takeShares_12 (l : Launch) (D : va_G) (cy : Nat → ClassId) {L : List Nat} {K N : Nat → Nat} {F G : Nat → Nat → Nat} (hZ : ZL L K N F G) {p : Program} {e : Env} {R : Room} {s : State} {m : MethodId} {args : Array Value} {below : List Frame} {meth : Method} {c : Code} {cells slots : Nat} {Q : State → Prop} (C : ZC p s m args meth c cX5_takeShares yX5_takeShares.cls 5 D cy L K N F G) (hRf : 2 ≤ R.frames) (hRl : 46 ≤ R.locals) (hRc : cells ≤ R.cells ∧ slots ≤ R.slots)  (v0 : Nat) (v1 : Int32) (v2 : Nat) (k0 : K v0 = 5) (k2 : K v2 = 4) (I : zH) (v3 : Int32) (A : zH) (o : (Int32 × zH) ⊕ (Int32 × zH)) (h : g_X5_takeShares_12 F G v0 v1 v2 v3 A I = some o)
    (hg : ∀ y : Int32 × zH, o = .inl y → ZW p l e R s m args below meth c 5 D cy L K N F G cells slots Q I y.2 12 [(0, .ref v0), (1, .int v1), (2, .ref v2), (3, .int y.1)] [])
    (hx : ∀ y : Int32 × zH, o = .inr y → ZW p l e R s m args below meth c 5 D cy L K N F G cells slots Q I y.2 58 [(0, .ref v0), (1, .int v1), (2, .ref v2), (3, .int y.1)] []) : ZW p l e R s m args below meth c 5 D cy L K N F G cells slots Q I A 12 [(0, .ref v0), (1, .int v1), (2, .ref v2), (3, .int v3)] [] := by
  unfold g_X5_takeShares_12 at h
  refine zr_iload_n C 3 rfl rfl dX5_takeShares_12 ?_
  refine zr_iload_n C 1 rfl rfl dX5_takeShares_13 ?_
  refine zr_icmp_gt (tgt := 58) C (by decide) dX5_takeShares_14 (fun hc1 => ?_) (fun hc1 => ?_)
  · have h := zif_t hc1 h
    obtain rfl := zso h
    refine zr_lv (lv' := [(0, .ref v0), (1, .int v1), (2, .ref v2), (3, .int v3)]) C [0, 1, 2, 3] rfl ?_
    exact hx _ rfl
  · have h := zif_f hc1 h
    refine zr_aload_n C 2 rfl rfl dX5_takeShares_17 ?_
    refine zr_aload_n C 0 rfl rfl dX5_takeShares_18 ?_
    refine zr_get (ci := 5) (k := 1) (v := .ref (F v0 1)) C k0 (by decide) rfl zinX5 (by decide) wd_159 rfl dX5_takeShares_19 ?_
    refine zr_iload_n C 3 rfl rfl dX5_takeShares_22 ?_
    obtain ⟨hc2, h⟩ := zck_e h
    refine zr_ald8 C (zt51 hZ k0).1 (zt51 hZ k0).2 hc2 dX5_takeShares_23 ?_
    refine zr_get (ci := 2) (k := 0) (v := .ref (F (G (F v0 1) v3.toNatClampNeg) 0)) C (zt8 hZ (zt51 hZ k0).1 (z_ix (zt51 hZ k0).2 hc2)) (by decide) rfl zinX2 (by decide) wd_80 rfl dX5_takeShares_24 ?_
    obtain ⟨r3, h4, h⟩ := zb_e h
    refine zr_callVi (n := 1) (As := [.ref (F (G (F v0 1) v3.toNatClampNeg) 0)]) C (c_X4_shareWith l D cy hZ v2 (F (G (F v0 1) v3.toNatClampNeg) 0) k2 (zt2 hZ (zt8 hZ (zt51 hZ k0).1 (z_ix (zt51 hZ k0).2 hc2))) I A h4) wd_295 wd_296 wd_297 wd_2 wd_298 (by decide +kernel) ⟨(Nat.le_trans (Nat.le_of_ble_eq_true rfl) hRf), (Nat.le_trans (Nat.le_of_ble_eq_true rfl) hRl)⟩ rfl rfl hRc k2 (by decide) rfl rfl rfl (Nat.le_of_ble_eq_true rfl) dX5_takeShares_27 ?_
    refine zr_istore (lv' := [(4, .int r3), (0, .ref v0), (1, .int v1), (2, .ref v2), (3, .int v3)]) C (by decide) rfl dX5_takeShares_30 ?_
    refine zr_aload_n C 1 rfl rfl dX5_takeShares_32 ?_
    refine zr_get (ci := 5) (k := 2) (v := .ref (F v0 2)) C k0 (by decide) rfl zinX5 (by decide) wd_160 rfl dX5_takeShares_33 ?_
    refine zr_iload_n C 2 rfl rfl dX5_takeShares_36 ?_
    obtain ⟨hc6, h⟩ := zck_e h
    refine zr_ald10 C (zt52 hZ k0).1 (zt52 hZ k0).2 hc6 dX5_takeShares_37 ?_
    refine zr_iload_n C 4 rfl rfl dX5_takeShares_38 ?_
    refine zr_iload C 0 rfl dX5_takeShares_39 ?_
    obtain ⟨hc7, h⟩ := zck_e h
    refine zr_iast C (zt10 hZ (zt52 hZ k0).1 (z_ix (zt52 hZ k0).2 hc6)).1 (zt10 hZ (zt52 hZ k0).1 (z_ix (zt52 hZ k0).2 hc6)).2 hc7 dX5_takeShares_41 ?_
    obtain ⟨A8, eA8, h⟩ := zlet_e h
    rw [← eA8]
    refine zr_aload_n C 1 rfl rfl dX5_takeShares_42 ?_
    refine zr_get (ci := 5) (k := 2) (v := .ref (F v0 2)) C k0 (by decide) rfl zinX5 (by decide) wd_160 rfl dX5_takeShares_43 ?_
    refine zr_iload_n C 4 rfl rfl dX5_takeShares_46 ?_
    obtain ⟨hc9, h⟩ := zck_e h
    refine zr_ald10 C (zt52 hZ k0).1 (zt52 hZ k0).2 hc9 dX5_takeShares_47 ?_
    refine zr_iload_n C 2 rfl rfl dX5_takeShares_48 ?_
    refine zr_iload C 0 rfl dX5_takeShares_49 ?_
    obtain ⟨hc10, h⟩ := zck_e h
    refine zr_iast C (zt10 hZ (zt52 hZ k0).1 (z_ix (zt52 hZ k0).2 hc9)).1 (zt10 hZ (zt52 hZ k0).1 (z_ix (zt52 hZ k0).2 hc9)).2 hc10 dX5_takeShares_51 ?_
    obtain ⟨A11, eA11, h⟩ := zlet_e h
    rw [← eA11]
    refine zr_iinc (v := v3 + 1) (lv' := [(3, .int (v3 + 1)), (4, .int r3), (0, .ref v0), (1, .int v1), (2, .ref v2)]) C 4 rfl rfl (by decide) rfl dX5_takeShares_52 ?_
    refine zr_goto (tgt := 12) C (by decide) dX5_takeShares_55 ?_
    obtain rfl := zso h
    refine zr_lv (lv' := [(0, .ref v0), (1, .int v1), (2, .ref v2), (3, .int (v3 + 1))]) C [2, 3, 4, 0] rfl ?_
    exact hg _ rfl
set_option maxHeartbeats 4000000 in
set_option maxRecDepth 100000 in
theorem w_X5_takeShares_12 (l : Launch) (D : va_G) (cy : Nat → ClassId) {L : List Nat} {K N : Nat → Nat} {F G : Nat → Nat → Nat} (hZ : ZL L K N F G) {p : Program} {e : Env} {R : Room} {s : State} {m : MethodId} {args : Array Value} {below : List Frame} {meth : Method} {c : Code} {cells slots : Nat} {Q : State → Prop} (C : ZC p s m args meth c cX5_takeShares yX5_takeShares.cls 5 D cy L K N F G) (hRf : 2 ≤ R.frames) (hRl : 46 ≤ R.locals) (hRc : cells ≤ R.cells ∧ slots ≤ R.slots)  (v0 : Nat) (v1 : Int32) (v2 : Nat) (k0 : K v0 = 5) (k2 : K v2 = 4) (I : zH) (n : Nat) (x : Int32 × zH) (o : Int32 × zH) (h : zIt (fun x => g_X5_takeShares_12 F G v0 v1 v2 x.1 x.2 I) n x = some o)
    (hx : ZW p l e R s m args below meth c 5 D cy L K N F G cells slots Q I o.2 58 [(0, .ref v0), (1, .int v1), (2, .ref v2), (3, .int o.1)] []) : ZW p l e R s m args below meth c 5 D cy L K N F G cells slots Q I x.2 12 [(0, .ref v0), (1, .int v1), (2, .ref v2), (3, .int x.1)] [] := by
  induction n generalizing x with
  | zero => cases h
  | succ n ih =>
    unfold zIt at h
    cases hb : g_X5_takeShares_12 F G v0 v1 v2 x.1 x.2 I with
    | none => rw [hb] at h; cases h
    | some q =>
      rw [hb] at h
      refine wb_X5_takeShares_12 l D cy hZ C hRf hRl hRc v0 v1 v2 k0 k2 I x.1 x.2 q hb (fun y hy => ?_) (fun y hy => ?_)
      · subst hy; exact ih y h
      · subst hy; cases h; exact hx
set_option maxHeartbeats 4000000 in
set_option maxRecDepth 100000 in
theorem c_X5_takeShares (l : Launch) (D : va_G) (cy : Nat → ClassId) {L : List Nat} {K N : Nat → Nat} {F G : Nat → Nat → Nat} (hZ : ZL L K N F G) (h0 : Nat) (p0 : Int32) (k_h0 : K h0 = 5) (I A : zH) {B' : zH} (h : f_X5_takeShares F G h0 p0 I A = some B') : ZMv l yX5_takeShares cX5_takeShares 5 none { frames := 2, cells := 0, slots := 0, locals := 46 } D cy L K N F G [.ref h0, .int p0] I A I B' := by
  refine ZMv.of (nL := 5) hZ rfl rfl (by decide) (Nat.le_of_ble_eq_true rfl) (fun p e s m args below meth c C hr => ?_)
  unfold f_X5_takeShares at h
  refine zr_lv (lv' := [(0, .ref h0), (1, .int p0)]) C [0, 1] rfl ?_
  refine zr_aload_n C 0 rfl rfl dX5_takeShares_0 ?_
  refine zr_get (ci := 5) (k := 1) (v := .ref (F h0 1)) C k_h0 (by decide) rfl zinX5 (by decide) wd_159 rfl dX5_takeShares_1 ?_
  refine zr_iload_n C 1 rfl rfl dX5_takeShares_4 ?_
  obtain ⟨hc1, h⟩ := zck_e h
  refine zr_ald8 C (zt51 hZ k_h0).1 (zt51 hZ k_h0).2 hc1 dX5_takeShares_5 ?_
  refine zr_get (ci := 2) (k := 0) (v := .ref (F (G (F h0 1) p0.toNatClampNeg) 0)) C (zt8 hZ (zt51 hZ k_h0).1 (z_ix (zt51 hZ k_h0).2 hc1)) (by decide) rfl zinX2 (by decide) wd_80 rfl dX5_takeShares_6 ?_
  refine zr_astore_n (lv' := [(2, .ref (F (G (F h0 1) p0.toNatClampNeg) 0)), (0, .ref h0), (1, .int p0)]) C rfl (by decide) rfl dX5_takeShares_9 ?_
  refine zr_iconst (v := 0) C (by decide) dX5_takeShares_10 ?_
  refine zr_istore_n (lv' := [(3, .int 0), (2, .ref (F (G (F h0 1) p0.toNatClampNeg) 0)), (0, .ref h0), (1, .int p0)]) C rfl (by decide) rfl dX5_takeShares_11 ?_
  obtain ⟨i2, A3, h4, h⟩ := zb2_e h
  refine zr_lv (lv' := [(0, .ref h0), (1, .int p0), (2, .ref (F (G (F h0 1) p0.toNatClampNeg) 0)), (3, .int 0)]) C [2, 3, 1, 0] rfl ?_
  refine w_X5_takeShares_12 l D cy hZ C (Nat.le_of_ble_eq_true rfl) (Nat.le_of_ble_eq_true rfl) ⟨Nat.le_of_ble_eq_true rfl, Nat.le_of_ble_eq_true rfl⟩ h0 p0 (F (G (F h0 1) p0.toNatClampNeg) 0) k_h0 (zt2 hZ (zt8 hZ (zt51 hZ k_h0).1 (z_ix (zt51 hZ k_h0).2 hc1))) I  2000 (0, A) (i2, A3) h4 ?_
  obtain rfl := zso h
  exact zr_vret C hr dX5_takeShares_58

def g_X5_takeOrigins_14 (F G : Nat → Nat → Nat) (v0 : Nat) (v1 : Int32) (v2 : Int32) (v3 : Int32) (I : zH) (A : zH) : Option ((Int32 × Int32) ⊕ (Int32 × Int32)) :=
  if v1 ≤ v3 then (
    some (.inr (v2, v3))
  ) else (
    zck (¬ (v1 < 0 ∨ 16 ≤ v1.toNatClampNeg)) <|
    zck (¬ (v3 < 0 ∨ 16 ≤ v3.toNatClampNeg)) <|
    if (A (G (F v0 2) v1.toNatClampNeg) v3.toNatClampNeg) < (I v0 12) then (
      some (.inl (v2, v3 + 1))
    ) else (
      zck (¬ (v3 < 0 ∨ 16 ≤ v3.toNatClampNeg)) <|
      some (.inl (v2 ||| (((1 : Int32) <<< (v3 &&& 31)) ||| (A (F v0 3) v3.toNatClampNeg)), v3 + 1))
    )
  )
def g_X5_takeOrigins_2 (F G : Nat → Nat → Nat) (v0 : Nat) (v1 : Int32) (A : zH) (I : zH) : Option ((Int32 × zH) ⊕ (Int32 × zH)) :=
  if (I v0 8) ≤ v1 then (
    some (.inr (v1, A))
  ) else (
    zb2 (zIt (fun x => g_X5_takeOrigins_14 F G v0 v1 x.1 x.2 I A) 2000 (0, 0)) fun i2 i3 =>
    zck (¬ (v1 < 0 ∨ 16 ≤ v1.toNatClampNeg)) <|
    zlet (up2 A (F v0 3) v1.toNatClampNeg i2) fun A5 =>
    some (.inl (v1 + 1, A5))
  )
def f_X5_takeOrigins (F G : Nat → Nat → Nat) (h0 : Nat) (I A : zH) : Option (zH) :=
  zb2 (zIt (fun x => g_X5_takeOrigins_2 F G h0 x.1 x.2 I ) 2000 (0, A)) fun i1 A2 =>
  some A2
set_option maxHeartbeats 4000000 in
set_option maxRecDepth 100000 in
theorem wb_X5_takeOrigins_14 (l : Launch) (D : va_G) (cy : Nat → ClassId) {L : List Nat} {K N : Nat → Nat} {F G : Nat → Nat → Nat} (hZ : ZL L K N F G) {p : Program} {e : Env} {R : Room} {s : State} {m : MethodId} {args : Array Value} {below : List Frame} {meth : Method} {c : Code} {cells slots : Nat} {Q : State → Prop} (C : ZC p s m args meth c cX5_takeOrigins yX5_takeOrigins.cls 4 D cy L K N F G) (hRf : 0 ≤ R.frames) (hRl : 0 ≤ R.locals) (hRc : cells ≤ R.cells ∧ slots ≤ R.slots)  (v0 : Nat) (v1 : Int32) (k0 : K v0 = 5) (I : zH) (A : zH) (v2 : Int32) (v3 : Int32) (o : (Int32 × Int32) ⊕ (Int32 × Int32)) (h : g_X5_takeOrigins_14 F G v0 v1 v2 v3 I A = some o)
    (hg : ∀ y : Int32 × Int32, o = .inl y → ZW p l e R s m args below meth c 4 D cy L K N F G cells slots Q I A 14 [(0, .ref v0), (1, .int v1), (2, .int y.1), (3, .int y.2)] [])
    (hx : ∀ y : Int32 × Int32, o = .inr y → ZW p l e R s m args below meth c 4 D cy L K N F G cells slots Q I A 53 [(0, .ref v0), (1, .int v1), (2, .int y.1), (3, .int y.2)] []) : ZW p l e R s m args below meth c 4 D cy L K N F G cells slots Q I A 14 [(0, .ref v0), (1, .int v1), (2, .int v2), (3, .int v3)] [] := by
  unfold g_X5_takeOrigins_14 at h
  refine zr_iload_n C 3 rfl rfl dX5_takeOrigins_14 ?_
  refine zr_iload_n C 1 rfl rfl dX5_takeOrigins_15 ?_
  refine zr_icmp_ge (tgt := 53) C (by decide) dX5_takeOrigins_16 (fun hc1 => ?_) (fun hc1 => ?_)
  · have h := zif_t hc1 h
    obtain rfl := zso h
    refine zr_lv (lv' := [(0, .ref v0), (1, .int v1), (2, .int v2), (3, .int v3)]) C [0, 1, 2, 3] rfl ?_
    exact hx _ rfl
  · have h := zif_f hc1 h
    refine zr_aload_n C 0 rfl rfl dX5_takeOrigins_19 ?_
    refine zr_get (ci := 5) (k := 2) (v := .ref (F v0 2)) C k0 (by decide) rfl zinX5 (by decide) wd_160 rfl dX5_takeOrigins_20 ?_
    refine zr_iload_n C 1 rfl rfl dX5_takeOrigins_23 ?_
    obtain ⟨hc2, h⟩ := zck_e h
    refine zr_ald10 C (zt52 hZ k0).1 (zt52 hZ k0).2 hc2 dX5_takeOrigins_24 ?_
    refine zr_iload_n C 3 rfl rfl dX5_takeOrigins_25 ?_
    obtain ⟨hc3, h⟩ := zck_e h
    refine zr_iald C (zt10 hZ (zt52 hZ k0).1 (z_ix (zt52 hZ k0).2 hc2)).1 (zt10 hZ (zt52 hZ k0).1 (z_ix (zt52 hZ k0).2 hc2)).2 hc3 dX5_takeOrigins_26 ?_
    refine zr_aload_n C 0 rfl rfl dX5_takeOrigins_27 ?_
    refine zr_get (ci := 5) (k := 12) (v := .int (I v0 12)) C k0 (by decide) rfl zinX5 (by decide) wd_170 rfl dX5_takeOrigins_28 ?_
    refine zr_icmp_lt (tgt := 47) C (by decide) dX5_takeOrigins_31 (fun hc4 => ?_) (fun hc4 => ?_)
    · have h := zif_t hc4 h
      refine zr_iinc (v := v3 + 1) (lv' := [(3, .int (v3 + 1)), (0, .ref v0), (1, .int v1), (2, .int v2)]) C 3 rfl rfl (by decide) rfl dX5_takeOrigins_47 ?_
      refine zr_goto (tgt := 14) C (by decide) dX5_takeOrigins_50 ?_
      obtain rfl := zso h
      refine zr_lv (lv' := [(0, .ref v0), (1, .int v1), (2, .int v2), (3, .int (v3 + 1))]) C [1, 2, 3, 0] rfl ?_
      exact hg _ rfl
    · have h := zif_f hc4 h
      refine zr_iload_n C 2 rfl rfl dX5_takeOrigins_34 ?_
      refine zr_iconst (v := 1) C (by decide) dX5_takeOrigins_35 ?_
      refine zr_iload_n C 3 rfl rfl dX5_takeOrigins_36 ?_
      refine zr_ishl C dX5_takeOrigins_37 ?_
      refine zr_aload_n C 0 rfl rfl dX5_takeOrigins_38 ?_
      refine zr_get (ci := 5) (k := 3) (v := .ref (F v0 3)) C k0 (by decide) rfl zinX5 (by decide) wd_161 rfl dX5_takeOrigins_39 ?_
      refine zr_iload_n C 3 rfl rfl dX5_takeOrigins_42 ?_
      obtain ⟨hc5, h⟩ := zck_e h
      refine zr_iald C (zt53 hZ k0).1 (zt53 hZ k0).2 hc5 dX5_takeOrigins_43 ?_
      refine zr_ior C dX5_takeOrigins_44 ?_
      refine zr_ior C dX5_takeOrigins_45 ?_
      refine zr_istore_n (lv' := [(2, .int (v2 ||| (((1 : Int32) <<< (v3 &&& 31)) ||| (A (F v0 3) v3.toNatClampNeg)))), (0, .ref v0), (1, .int v1), (3, .int v3)]) C rfl (by decide) rfl dX5_takeOrigins_46 ?_
      refine zr_iinc (v := v3 + 1) (lv' := [(3, .int (v3 + 1)), (2, .int (v2 ||| (((1 : Int32) <<< (v3 &&& 31)) ||| (A (F v0 3) v3.toNatClampNeg)))), (0, .ref v0), (1, .int v1)]) C 3 rfl rfl (by decide) rfl dX5_takeOrigins_47 ?_
      refine zr_goto (tgt := 14) C (by decide) dX5_takeOrigins_50 ?_
      obtain rfl := zso h
      refine zr_lv (lv' := [(0, .ref v0), (1, .int v1), (2, .int (v2 ||| (((1 : Int32) <<< (v3 &&& 31)) ||| (A (F v0 3) v3.toNatClampNeg)))), (3, .int (v3 + 1))]) C [2, 3, 1, 0] rfl ?_
      exact hg _ rfl
set_option maxHeartbeats 4000000 in
set_option maxRecDepth 100000 in
theorem w_X5_takeOrigins_14 (l : Launch) (D : va_G) (cy : Nat → ClassId) {L : List Nat} {K N : Nat → Nat} {F G : Nat → Nat → Nat} (hZ : ZL L K N F G) {p : Program} {e : Env} {R : Room} {s : State} {m : MethodId} {args : Array Value} {below : List Frame} {meth : Method} {c : Code} {cells slots : Nat} {Q : State → Prop} (C : ZC p s m args meth c cX5_takeOrigins yX5_takeOrigins.cls 4 D cy L K N F G) (hRf : 0 ≤ R.frames) (hRl : 0 ≤ R.locals) (hRc : cells ≤ R.cells ∧ slots ≤ R.slots)  (v0 : Nat) (v1 : Int32) (k0 : K v0 = 5) (I : zH) (A : zH) (n : Nat) (x : Int32 × Int32) (o : Int32 × Int32) (h : zIt (fun x => g_X5_takeOrigins_14 F G v0 v1 x.1 x.2 I A) n x = some o)
    (hx : ZW p l e R s m args below meth c 4 D cy L K N F G cells slots Q I A 53 [(0, .ref v0), (1, .int v1), (2, .int o.1), (3, .int o.2)] []) : ZW p l e R s m args below meth c 4 D cy L K N F G cells slots Q I A 14 [(0, .ref v0), (1, .int v1), (2, .int x.1), (3, .int x.2)] [] := by
  induction n generalizing x with
  | zero => cases h
  | succ n ih =>
    unfold zIt at h
    cases hb : g_X5_takeOrigins_14 F G v0 v1 x.1 x.2 I A with
    | none => rw [hb] at h; cases h
    | some q =>
      rw [hb] at h
      refine wb_X5_takeOrigins_14 l D cy hZ C hRf hRl hRc v0 v1 k0 I A x.1 x.2 q hb (fun y hy => ?_) (fun y hy => ?_)
      · subst hy; exact ih y h
      · subst hy; cases h; exact hx
set_option maxHeartbeats 4000000 in
set_option maxRecDepth 100000 in
theorem wb_X5_takeOrigins_2 (l : Launch) (D : va_G) (cy : Nat → ClassId) {L : List Nat} {K N : Nat → Nat} {F G : Nat → Nat → Nat} (hZ : ZL L K N F G) {p : Program} {e : Env} {R : Room} {s : State} {m : MethodId} {args : Array Value} {below : List Frame} {meth : Method} {c : Code} {cells slots : Nat} {Q : State → Prop} (C : ZC p s m args meth c cX5_takeOrigins yX5_takeOrigins.cls 4 D cy L K N F G) (hRf : 0 ≤ R.frames) (hRl : 0 ≤ R.locals) (hRc : cells ≤ R.cells ∧ slots ≤ R.slots)  (v0 : Nat) (k0 : K v0 = 5) (I : zH) (v1 : Int32) (A : zH) (o : (Int32 × zH) ⊕ (Int32 × zH)) (h : g_X5_takeOrigins_2 F G v0 v1 A I = some o)
    (hg : ∀ y : Int32 × zH, o = .inl y → ZW p l e R s m args below meth c 4 D cy L K N F G cells slots Q I y.2 2 [(0, .ref v0), (1, .int y.1)] [])
    (hx : ∀ y : Int32 × zH, o = .inr y → ZW p l e R s m args below meth c 4 D cy L K N F G cells slots Q I y.2 66 [(0, .ref v0), (1, .int y.1)] []) : ZW p l e R s m args below meth c 4 D cy L K N F G cells slots Q I A 2 [(0, .ref v0), (1, .int v1)] [] := by
  unfold g_X5_takeOrigins_2 at h
  refine zr_iload_n C 1 rfl rfl dX5_takeOrigins_2 ?_
  refine zr_aload_n C 0 rfl rfl dX5_takeOrigins_3 ?_
  refine zr_get (ci := 5) (k := 8) (v := .int (I v0 8)) C k0 (by decide) rfl zinX5 (by decide) wd_166 rfl dX5_takeOrigins_4 ?_
  refine zr_icmp_ge (tgt := 66) C (by decide) dX5_takeOrigins_7 (fun hc1 => ?_) (fun hc1 => ?_)
  · have h := zif_t hc1 h
    obtain rfl := zso h
    refine zr_lv (lv' := [(0, .ref v0), (1, .int v1)]) C [0, 1] rfl ?_
    exact hx _ rfl
  · have h := zif_f hc1 h
    refine zr_iconst (v := 0) C (by decide) dX5_takeOrigins_10 ?_
    refine zr_istore_n (lv' := [(2, .int 0), (0, .ref v0), (1, .int v1)]) C rfl (by decide) rfl dX5_takeOrigins_11 ?_
    refine zr_iconst (v := 0) C (by decide) dX5_takeOrigins_12 ?_
    refine zr_istore_n (lv' := [(3, .int 0), (2, .int 0), (0, .ref v0), (1, .int v1)]) C rfl (by decide) rfl dX5_takeOrigins_13 ?_
    obtain ⟨i2, i3, h6, h⟩ := zb2_e h
    refine zr_lv (lv' := [(0, .ref v0), (1, .int v1), (2, .int 0), (3, .int 0)]) C [2, 3, 1, 0] rfl ?_
    refine w_X5_takeOrigins_14 l D cy hZ C (Nat.le_trans (Nat.le_of_ble_eq_true rfl) hRf) (Nat.le_trans (Nat.le_of_ble_eq_true rfl) hRl) hRc v0 v1 k0 I A 2000 (0, 0) (i2, i3) h6 ?_
    refine zr_aload_n C 0 rfl rfl dX5_takeOrigins_53 ?_
    refine zr_get (ci := 5) (k := 3) (v := .ref (F v0 3)) C k0 (by decide) rfl zinX5 (by decide) wd_161 rfl dX5_takeOrigins_54 ?_
    refine zr_iload_n C 1 rfl rfl dX5_takeOrigins_57 ?_
    refine zr_iload_n C 2 rfl rfl dX5_takeOrigins_58 ?_
    obtain ⟨hc4, h⟩ := zck_e h
    refine zr_iast C (zt53 hZ k0).1 (zt53 hZ k0).2 hc4 dX5_takeOrigins_59 ?_
    obtain ⟨A5, eA5, h⟩ := zlet_e h
    rw [← eA5]
    refine zr_iinc (v := v1 + 1) (lv' := [(1, .int (v1 + 1)), (0, .ref v0), (2, .int i2), (3, .int i3)]) C 1 rfl rfl (by decide) rfl dX5_takeOrigins_60 ?_
    refine zr_goto (tgt := 2) C (by decide) dX5_takeOrigins_63 ?_
    obtain rfl := zso h
    refine zr_lv (lv' := [(0, .ref v0), (1, .int (v1 + 1))]) C [1, 0] rfl ?_
    exact hg _ rfl
set_option maxHeartbeats 4000000 in
set_option maxRecDepth 100000 in
theorem w_X5_takeOrigins_2 (l : Launch) (D : va_G) (cy : Nat → ClassId) {L : List Nat} {K N : Nat → Nat} {F G : Nat → Nat → Nat} (hZ : ZL L K N F G) {p : Program} {e : Env} {R : Room} {s : State} {m : MethodId} {args : Array Value} {below : List Frame} {meth : Method} {c : Code} {cells slots : Nat} {Q : State → Prop} (C : ZC p s m args meth c cX5_takeOrigins yX5_takeOrigins.cls 4 D cy L K N F G) (hRf : 0 ≤ R.frames) (hRl : 0 ≤ R.locals) (hRc : cells ≤ R.cells ∧ slots ≤ R.slots)  (v0 : Nat) (k0 : K v0 = 5) (I : zH) (n : Nat) (x : Int32 × zH) (o : Int32 × zH) (h : zIt (fun x => g_X5_takeOrigins_2 F G v0 x.1 x.2 I) n x = some o)
    (hx : ZW p l e R s m args below meth c 4 D cy L K N F G cells slots Q I o.2 66 [(0, .ref v0), (1, .int o.1)] []) : ZW p l e R s m args below meth c 4 D cy L K N F G cells slots Q I x.2 2 [(0, .ref v0), (1, .int x.1)] [] := by
  induction n generalizing x with
  | zero => cases h
  | succ n ih =>
    unfold zIt at h
    cases hb : g_X5_takeOrigins_2 F G v0 x.1 x.2 I with
    | none => rw [hb] at h; cases h
    | some q =>
      rw [hb] at h
      refine wb_X5_takeOrigins_2 l D cy hZ C hRf hRl hRc v0 k0 I x.1 x.2 q hb (fun y hy => ?_) (fun y hy => ?_)
      · subst hy; exact ih y h
      · subst hy; cases h; exact hx
set_option maxHeartbeats 4000000 in
set_option maxRecDepth 100000 in
theorem c_X5_takeOrigins (l : Launch) (D : va_G) (cy : Nat → ClassId) {L : List Nat} {K N : Nat → Nat} {F G : Nat → Nat → Nat} (hZ : ZL L K N F G) (h0 : Nat) (k_h0 : K h0 = 5) (I A : zH) {B' : zH} (h : f_X5_takeOrigins F G h0 I A = some B') : ZMv l yX5_takeOrigins cX5_takeOrigins 4 none { frames := 0, cells := 0, slots := 0, locals := 0 } D cy L K N F G [.ref h0] I A I B' := by
  refine ZMv.of (nL := 4) hZ rfl rfl (by decide) (Nat.le_of_ble_eq_true rfl) (fun p e s m args below meth c C hr => ?_)
  unfold f_X5_takeOrigins at h
  refine zr_lv (lv' := [(0, .ref h0)]) C [0] rfl ?_
  refine zr_iconst (v := 0) C (by decide) dX5_takeOrigins_0 ?_
  refine zr_istore_n (lv' := [(1, .int 0), (0, .ref h0)]) C rfl (by decide) rfl dX5_takeOrigins_1 ?_
  obtain ⟨i1, A2, h3, h⟩ := zb2_e h
  refine zr_lv (lv' := [(0, .ref h0), (1, .int 0)]) C [1, 0] rfl ?_
  refine w_X5_takeOrigins_2 l D cy hZ C (Nat.le_of_ble_eq_true rfl) (Nat.le_of_ble_eq_true rfl) ⟨Nat.le_of_ble_eq_true rfl, Nat.le_of_ble_eq_true rfl⟩ h0 k_h0 I  2000 (0, A) (i1, A2) h3 ?_
  obtain rfl := zso h
  exact zr_vret C hr dX5_takeOrigins_66

