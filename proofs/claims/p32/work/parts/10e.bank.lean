def g_X5_settle_22 (F G : Nat → Nat → Nat) (v0 : Nat) (v1 : Int32) (v2 : Int32) (I : zH) (A : zH) : Option ((Int32 × Int32 × zH) ⊕ (Int32 × Int32 × zH)) :=
  if (I v0 10) ≤ v2 then (
    some (.inr (v1, v2, I))
  ) else (
    zck (¬ (v2 < 0 ∨ 5 ≤ v2.toNatClampNeg)) <|
    zb (f_X3_isRecalledUnder F G (G (F v0 5) v2.toNatClampNeg) (F v0 6) I A) fun r3 =>
    if r3 = 0 then (
      some (.inl (v1, v2 + 1, I))
    ) else (
      zck (¬ (v2 < 0 ∨ 5 ≤ v2.toNatClampNeg)) <|
      zlet (up2 I (G (F v0 5) v2.toNatClampNeg) 6 2) fun I8 =>
      zck (¬ (v2 < 0 ∨ 5 ≤ v2.toNatClampNeg)) <|
      zlet (up2 I8 (G (F v0 5) v2.toNatClampNeg) 7 ((I8 (G (F v0 5) v2.toNatClampNeg) 7) + 1)) fun I10 =>
      some (.inl (v1 + 1, v2 + 1, I10))
    )
  )
def f_X5_settle (F G : Nat → Nat → Nat) (h0 : Nat) (I A : zH) : Option (Int32 × zH × zH) :=
  zb (f_X5_takeOrigins F G h0 I A) fun A1 =>
  zb (f_X5_bind F G h0 (F h0 6) (I h0 12) (-1) (-1) I A1) fun A4 =>
  zb3 (zIt (fun x => g_X5_settle_22 F G h0 x.1 x.2.1 x.2.2 A4) 2000 (0, 0, I)) fun i7 i8 I9 =>
  some (i7, I9, A4)
set_option maxHeartbeats 4000000 in
set_option maxRecDepth 100000 in
theorem wb_X5_settle_22 (l : Launch) (D : va_G) (cy : Nat → ClassId) {L : List Nat} {K N : Nat → Nat} {F G : Nat → Nat → Nat} (hZ : ZL L K N F G) {p : Program} {e : Env} {R : Room} {s : State} {m : MethodId} {args : Array Value} {below : List Frame} {meth : Method} {c : Code} {cells slots : Nat} {Q : State → Prop} (C : ZC p s m args meth c cX5_settle yX5_settle.cls 3 D cy L K N F G) (hRf : 5 ≤ R.frames) (hRl : 116 ≤ R.locals) (hRc : cells ≤ R.cells ∧ slots ≤ R.slots)  (v0 : Nat) (k0 : K v0 = 5) (A : zH) (v1 : Int32) (v2 : Int32) (I : zH) (o : (Int32 × Int32 × zH) ⊕ (Int32 × Int32 × zH)) (h : g_X5_settle_22 F G v0 v1 v2 I A = some o)
    (hg : ∀ y : Int32 × Int32 × zH, o = .inl y → ZW p l e R s m args below meth c 3 D cy L K N F G cells slots Q y.2.2 A 22 [(0, .ref v0), (1, .int y.1), (2, .int y.2.1)] [])
    (hx : ∀ y : Int32 × Int32 × zH, o = .inr y → ZW p l e R s m args below meth c 3 D cy L K N F G cells slots Q y.2.2 A 80 [(0, .ref v0), (1, .int y.1), (2, .int y.2.1)] []) : ZW p l e R s m args below meth c 3 D cy L K N F G cells slots Q I A 22 [(0, .ref v0), (1, .int v1), (2, .int v2)] [] := by
  unfold g_X5_settle_22 at h
  refine zr_iload_n C 2 rfl rfl dX5_settle_22 ?_
  refine zr_aload_n C 0 rfl rfl dX5_settle_23 ?_
  refine zr_get (ci := 5) (k := 10) (v := .int (I v0 10)) C k0 (by decide) rfl zinX5 (by decide) wd_168 rfl dX5_settle_24 ?_
  refine zr_icmp_ge (tgt := 80) C (by decide) dX5_settle_27 (fun hc1 => ?_) (fun hc1 => ?_)
  · have h := zif_t hc1 h
    obtain rfl := zso h
    refine zr_lv (lv' := [(0, .ref v0), (1, .int v1), (2, .int v2)]) C [0, 1, 2] rfl ?_
    exact hx _ rfl
  · have h := zif_f hc1 h
    refine zr_aload_n C 0 rfl rfl dX5_settle_30 ?_
    refine zr_get (ci := 5) (k := 5) (v := .ref (F v0 5)) C k0 (by decide) rfl zinX5 (by decide) wd_163 rfl dX5_settle_31 ?_
    refine zr_iload_n C 2 rfl rfl dX5_settle_34 ?_
    obtain ⟨hc2, h⟩ := zck_e h
    refine zr_ald9 C (zt55 hZ k0).1 (zt55 hZ k0).2 hc2 dX5_settle_35 ?_
    refine zr_aload_n C 0 rfl rfl dX5_settle_36 ?_
    refine zr_get (ci := 5) (k := 6) (v := .ref (F v0 6)) C k0 (by decide) rfl zinX5 (by decide) wd_164 rfl dX5_settle_37 ?_
    obtain ⟨r3, h4, h⟩ := zb_e h
    refine zr_callVi (n := 1) (As := [.ref (F v0 6)]) C (c_X3_isRecalledUnder l D cy hZ (G (F v0 5) v2.toNatClampNeg) (F v0 6) (zt9 hZ (zt55 hZ k0).1 (z_ix (zt55 hZ k0).2 hc2)) (zt56 hZ k0) I A h4) wd_325 wd_326 wd_327 wd_6 wd_328 (by decide +kernel) ⟨(Nat.le_trans (Nat.le_of_ble_eq_true rfl) hRf), (Nat.le_trans (Nat.le_of_ble_eq_true rfl) hRl)⟩ rfl rfl hRc (zt9 hZ (zt55 hZ k0).1 (z_ix (zt55 hZ k0).2 hc2)) (by decide) rfl rfl rfl (Nat.le_of_ble_eq_true rfl) dX5_settle_40 ?_
    refine zr_if_eq (tgt := 74) C (by decide) dX5_settle_43 (fun hc6 => ?_) (fun hc6 => ?_)
    · have h := zif_t hc6 h
      refine zr_iinc (v := v2 + 1) (lv' := [(2, .int (v2 + 1)), (0, .ref v0), (1, .int v1)]) C 2 rfl rfl (by decide) rfl dX5_settle_74 ?_
      refine zr_goto (tgt := 22) C (by decide) dX5_settle_77 ?_
      obtain rfl := zso h
      refine zr_lv (lv' := [(0, .ref v0), (1, .int v1), (2, .int (v2 + 1))]) C [1, 2, 0] rfl ?_
      exact hg _ rfl
    · have h := zif_f hc6 h
      refine zr_aload_n C 0 rfl rfl dX5_settle_46 ?_
      refine zr_get (ci := 5) (k := 5) (v := .ref (F v0 5)) C k0 (by decide) rfl zinX5 (by decide) wd_163 rfl dX5_settle_47 ?_
      refine zr_iload_n C 2 rfl rfl dX5_settle_50 ?_
      obtain ⟨hc7, h⟩ := zck_e h
      refine zr_ald9 C (zt55 hZ k0).1 (zt55 hZ k0).2 hc7 dX5_settle_51 ?_
      refine zr_iconst (v := 2) C (by decide) dX5_settle_52 ?_
      refine zr_put (ci := 3) (k := 6) (ty := .int) C tyX3 (zt9 hZ (zt55 hZ k0).1 (z_ix (zt55 hZ k0).2 hc7)) (by decide) rfl zinX3 tyX3_ok nmX3 (by decide) wd_138 rfl (by decide +kernel) rfl rfl (Nat.le_of_ble_eq_true rfl) (zset_3_6 F _ _ _) dX5_settle_53 ?_
      obtain ⟨I8, eI8, h⟩ := zlet_e h
      rw [← eI8]
      refine zr_aload_n C 0 rfl rfl dX5_settle_56 ?_
      refine zr_get (ci := 5) (k := 5) (v := .ref (F v0 5)) C k0 (by decide) rfl zinX5 (by decide) wd_163 rfl dX5_settle_57 ?_
      refine zr_iload_n C 2 rfl rfl dX5_settle_60 ?_
      obtain ⟨hc9, h⟩ := zck_e h
      refine zr_ald9 C (zt55 hZ k0).1 (zt55 hZ k0).2 hc9 dX5_settle_61 ?_
      refine zr_dup C rfl dX5_settle_62 ?_
      refine zr_get (ci := 3) (k := 7) (v := .int (I8 (G (F v0 5) v2.toNatClampNeg) 7)) C (zt9 hZ (zt55 hZ k0).1 (z_ix (zt55 hZ k0).2 hc9)) (by decide) rfl zinX3 (by decide) wd_140 rfl dX5_settle_63 ?_
      refine zr_iconst (v := 1) C (by decide) dX5_settle_66 ?_
      refine zr_iadd C dX5_settle_67 ?_
      refine zr_put (ci := 3) (k := 7) (ty := .int) C tyX3 (zt9 hZ (zt55 hZ k0).1 (z_ix (zt55 hZ k0).2 hc9)) (by decide) rfl zinX3 tyX3_ok nmX3 (by decide) wd_140 rfl (by decide +kernel) rfl rfl (Nat.le_of_ble_eq_true rfl) (zset_3_7 F _ _ _) dX5_settle_68 ?_
      obtain ⟨I10, eI10, h⟩ := zlet_e h
      rw [← eI10]
      refine zr_iinc (v := v1 + 1) (lv' := [(1, .int (v1 + 1)), (0, .ref v0), (2, .int v2)]) C 1 rfl rfl (by decide) rfl dX5_settle_71 ?_
      refine zr_iinc (v := v2 + 1) (lv' := [(2, .int (v2 + 1)), (1, .int (v1 + 1)), (0, .ref v0)]) C 2 rfl rfl (by decide) rfl dX5_settle_74 ?_
      refine zr_goto (tgt := 22) C (by decide) dX5_settle_77 ?_
      obtain rfl := zso h
      refine zr_lv (lv' := [(0, .ref v0), (1, .int (v1 + 1)), (2, .int (v2 + 1))]) C [2, 1, 0] rfl ?_
      exact hg _ rfl
set_option maxHeartbeats 4000000 in
set_option maxRecDepth 100000 in
theorem w_X5_settle_22 (l : Launch) (D : va_G) (cy : Nat → ClassId) {L : List Nat} {K N : Nat → Nat} {F G : Nat → Nat → Nat} (hZ : ZL L K N F G) {p : Program} {e : Env} {R : Room} {s : State} {m : MethodId} {args : Array Value} {below : List Frame} {meth : Method} {c : Code} {cells slots : Nat} {Q : State → Prop} (C : ZC p s m args meth c cX5_settle yX5_settle.cls 3 D cy L K N F G) (hRf : 5 ≤ R.frames) (hRl : 116 ≤ R.locals) (hRc : cells ≤ R.cells ∧ slots ≤ R.slots)  (v0 : Nat) (k0 : K v0 = 5) (A : zH) (n : Nat) (x : Int32 × Int32 × zH) (o : Int32 × Int32 × zH) (h : zIt (fun x => g_X5_settle_22 F G v0 x.1 x.2.1 x.2.2 A) n x = some o)
    (hx : ZW p l e R s m args below meth c 3 D cy L K N F G cells slots Q o.2.2 A 80 [(0, .ref v0), (1, .int o.1), (2, .int o.2.1)] []) : ZW p l e R s m args below meth c 3 D cy L K N F G cells slots Q x.2.2 A 22 [(0, .ref v0), (1, .int x.1), (2, .int x.2.1)] [] := by
  induction n generalizing x with
  | zero => cases h
  | succ n ih =>
    unfold zIt at h
    cases hb : g_X5_settle_22 F G v0 x.1 x.2.1 x.2.2 A with
    | none => rw [hb] at h; cases h
    | some q =>
      rw [hb] at h
      refine wb_X5_settle_22 l D cy hZ C hRf hRl hRc v0 k0 A x.1 x.2.1 x.2.2 q hb (fun y hy => ?_) (fun y hy => ?_)
      · subst hy; exact ih y h
      · subst hy; cases h; exact hx
set_option maxHeartbeats 4000000 in
set_option maxRecDepth 100000 in
theorem c_X5_settle (l : Launch) (D : va_G) (cy : Nat → ClassId) {L : List Nat} {K N : Nat → Nat} {F G : Nat → Nat → Nat} (hZ : ZL L K N F G) (h0 : Nat) (k_h0 : K h0 = 5) (I A : zH) {r : Int32} {J' : zH} {B' : zH} (h : f_X5_settle F G h0 I A = some (r, J', B')) : ZMi l yX5_settle cX5_settle 3 (some .int) { frames := 5, cells := 0, slots := 0, locals := 116 } D cy L K N F G [.ref h0] I A r J' B' := by
  refine ZMi.of (nL := 3) hZ rfl rfl (by decide) (Nat.le_of_ble_eq_true rfl) (fun p e s m args below meth c C hr => ?_)
  unfold f_X5_settle at h
  refine zr_lv (lv' := [(0, .ref h0)]) C [0] rfl ?_
  refine zr_aload_n C 0 rfl rfl dX5_settle_0 ?_
  obtain ⟨A1, h2, h⟩ := zb_e h
  refine zr_callVv (n := 0) (As := []) C (c_X5_takeOrigins l D cy hZ h0 k_h0 I A h2) wd_306 wd_308 wp_7 wd_1 wd_309 (by decide +kernel) ⟨(Nat.le_of_ble_eq_true rfl), (Nat.le_of_ble_eq_true rfl)⟩ rfl rfl ⟨Nat.le_of_ble_eq_true rfl, Nat.le_of_ble_eq_true rfl⟩ k_h0 (by decide) rfl rfl rfl (Nat.le_of_ble_eq_true rfl) dX5_settle_1 ?_
  refine zr_aload_n C 0 rfl rfl dX5_settle_4 ?_
  refine zr_aload_n C 0 rfl rfl dX5_settle_5 ?_
  refine zr_get (ci := 5) (k := 6) (v := .ref (F h0 6)) C k_h0 (by decide) rfl zinX5 (by decide) wd_164 rfl dX5_settle_6 ?_
  refine zr_aload_n C 0 rfl rfl dX5_settle_9 ?_
  refine zr_get (ci := 5) (k := 12) (v := .int (I h0 12)) C k_h0 (by decide) rfl zinX5 (by decide) wd_170 rfl dX5_settle_10 ?_
  refine zr_iconst (v := (-1)) C (by decide) dX5_settle_13 ?_
  refine zr_iconst (v := (-1)) C (by decide) dX5_settle_14 ?_
  obtain ⟨A4, h5, h⟩ := zb_e h
  refine zr_callVv (n := 4) (As := [.ref (F h0 6), .int (I h0 12), .int (-1), .int (-1)]) C (c_X5_bind l D cy hZ h0 (F h0 6) (I h0 12) (-1) (-1) k_h0 (zt56 hZ k_h0) I A1 h5) wd_310 wd_312 wp_8 wd_1 wd_313 (by decide +kernel) ⟨(Nat.le_of_ble_eq_true rfl), (Nat.le_of_ble_eq_true rfl)⟩ rfl rfl ⟨Nat.le_of_ble_eq_true rfl, Nat.le_of_ble_eq_true rfl⟩ k_h0 (by decide) rfl rfl rfl (Nat.le_of_ble_eq_true rfl) dX5_settle_15 ?_
  refine zr_iconst (v := 0) C (by decide) dX5_settle_18 ?_
  refine zr_istore_n (lv' := [(1, .int 0), (0, .ref h0)]) C rfl (by decide) rfl dX5_settle_19 ?_
  refine zr_iconst (v := 0) C (by decide) dX5_settle_20 ?_
  refine zr_istore_n (lv' := [(2, .int 0), (1, .int 0), (0, .ref h0)]) C rfl (by decide) rfl dX5_settle_21 ?_
  obtain ⟨i7, i8, I9, h10, h⟩ := zb3_e h
  refine zr_lv (lv' := [(0, .ref h0), (1, .int 0), (2, .int 0)]) C [2, 1, 0] rfl ?_
  refine w_X5_settle_22 l D cy hZ C (Nat.le_of_ble_eq_true rfl) (Nat.le_of_ble_eq_true rfl) ⟨Nat.le_of_ble_eq_true rfl, Nat.le_of_ble_eq_true rfl⟩ h0 k_h0 A4 2000 (0, 0, I) (i7, i8, I9) h10 ?_
  refine zr_iload_n C 1 rfl rfl dX5_settle_80 ?_
  cases zso h
  exact zr_iret C hr dX5_settle_81

def f_X5_keep (F G : Nat → Nat → Nat) (h0 : Nat) (I A : zH) : Option (Int32 × zH × zH) :=
  if 4 ≤ (I (F h0 0) 2) then (
    if (I h0 8) < 16 then (
      zck (¬ (I h0 8 < 0 ∨ 16 ≤ (I h0 8).toNatClampNeg)) <|
      zb2 (f_X4_become F G (F (G (F h0 1) (I h0 8).toNatClampNeg) 0) (F h0 0) 0 I A) fun I4 A5 =>
      zlet (up2 I4 h0 8 ((I h0 8) + 1)) fun I8 =>
      zb (f_X5_takeShares F G h0 (I h0 8) I8 A5) fun A9 =>
      zb3 (f_X5_settle F G h0 I8 A9) fun r12 I13 A14 =>
      some (I h0 8, I13, A14)
    ) else (
      none
    )
  ) else (
    none
  )
set_option maxHeartbeats 4000000 in
set_option maxRecDepth 100000 in
theorem c_X5_keep (l : Launch) (D : va_G) (cy : Nat → ClassId) {L : List Nat} {K N : Nat → Nat} {F G : Nat → Nat → Nat} (hZ : ZL L K N F G) (h0 : Nat) (k_h0 : K h0 = 5) (I A : zH) {r : Int32} {J' : zH} {B' : zH} (h : f_X5_keep F G h0 I A = some (r, J', B')) : ZMi l yX5_keep cX5_keep 2 (some .int) { frames := 6, cells := 0, slots := 0, locals := 138 } D cy L K N F G [.ref h0] I A r J' B' := by
  refine ZMi.of (nL := 2) hZ rfl rfl (by decide) (Nat.le_of_ble_eq_true rfl) (fun p e s m args below meth c C hr => ?_)
  unfold f_X5_keep at h
  refine zr_lv (lv' := [(0, .ref h0)]) C [0] rfl ?_
  refine zr_aload_n C 0 rfl rfl dX5_keep_0 ?_
  refine zr_get (ci := 5) (k := 0) (v := .ref (F h0 0)) C k_h0 (by decide) rfl zinX5 (by decide) wd_158 rfl dX5_keep_1 ?_
  refine zr_get (ci := 4) (k := 2) (v := .int (I (F h0 0) 2)) C (zt50 hZ k_h0) (by decide) rfl zinX4 (by decide) wd_32 rfl dX5_keep_4 ?_
  refine zr_iconst (v := 4) C (by decide) dX5_keep_7 ?_
  refine zr_icmp_ge (tgt := 21) C (by decide) dX5_keep_8 (fun hc1 => ?_) (fun hc1 => ?_)
  · have h := zif_t hc1 h
    refine zr_aload_n C 0 rfl rfl dX5_keep_21 ?_
    refine zr_get (ci := 5) (k := 8) (v := .int (I h0 8)) C k_h0 (by decide) rfl zinX5 (by decide) wd_166 rfl dX5_keep_22 ?_
    refine zr_bipush (v := 16) C (by decide) dX5_keep_25 ?_
    refine zr_icmp_lt (tgt := 40) C (by decide) dX5_keep_27 (fun hc2 => ?_) (fun hc2 => ?_)
    · have h := zif_t hc2 h
      refine zr_aload_n C 0 rfl rfl dX5_keep_40 ?_
      refine zr_get (ci := 5) (k := 8) (v := .int (I h0 8)) C k_h0 (by decide) rfl zinX5 (by decide) wd_166 rfl dX5_keep_41 ?_
      refine zr_istore_n (lv' := [(1, .int (I h0 8)), (0, .ref h0)]) C rfl (by decide) rfl dX5_keep_44 ?_
      refine zr_aload_n C 1 rfl rfl dX5_keep_45 ?_
      refine zr_get (ci := 5) (k := 1) (v := .ref (F h0 1)) C k_h0 (by decide) rfl zinX5 (by decide) wd_159 rfl dX5_keep_46 ?_
      refine zr_iload_n C 0 rfl rfl dX5_keep_49 ?_
      obtain ⟨hc3, h⟩ := zck_e h
      refine zr_ald8 C (zt51 hZ k_h0).1 (zt51 hZ k_h0).2 hc3 dX5_keep_50 ?_
      refine zr_get (ci := 2) (k := 0) (v := .ref (F (G (F h0 1) (I h0 8).toNatClampNeg) 0)) C (zt8 hZ (zt51 hZ k_h0).1 (z_ix (zt51 hZ k_h0).2 hc3)) (by decide) rfl zinX2 (by decide) wd_80 rfl dX5_keep_51 ?_
      refine zr_aload_n C 1 rfl rfl dX5_keep_54 ?_
      refine zr_get (ci := 5) (k := 0) (v := .ref (F h0 0)) C k_h0 (by decide) rfl zinX5 (by decide) wd_158 rfl dX5_keep_55 ?_
      refine zr_iconst (v := 0) C (by decide) dX5_keep_58 ?_
      obtain ⟨I4, A5, h6, h⟩ := zb2_e h
      refine zr_callVv (n := 2) (As := [.ref (F h0 0), .int 0]) C (c_X4_become l D cy hZ (F (G (F h0 1) (I h0 8).toNatClampNeg) 0) (F h0 0) 0 (zt2 hZ (zt8 hZ (zt51 hZ k_h0).1 (z_ix (zt51 hZ k_h0).2 hc3))) (zt50 hZ k_h0) I A h6) wd_271 wd_272 wd_273 wd_2 wd_274 (by decide +kernel) ⟨(Nat.le_of_ble_eq_true rfl), (Nat.le_of_ble_eq_true rfl)⟩ rfl rfl ⟨Nat.le_of_ble_eq_true rfl, Nat.le_of_ble_eq_true rfl⟩ (zt2 hZ (zt8 hZ (zt51 hZ k_h0).1 (z_ix (zt51 hZ k_h0).2 hc3))) (by decide) rfl rfl rfl (Nat.le_of_ble_eq_true rfl) dX5_keep_59 ?_
      refine zr_aload_n C 1 rfl rfl dX5_keep_62 ?_
      refine zr_iload_n C 0 rfl rfl dX5_keep_63 ?_
      refine zr_iconst (v := 1) C (by decide) dX5_keep_64 ?_
      refine zr_iadd C dX5_keep_65 ?_
      refine zr_put (ci := 5) (k := 8) (ty := .int) C tyX5 k_h0 (by decide) rfl zinX5 tyX5_ok nmX5 (by decide) wd_166 rfl (by decide +kernel) rfl rfl (Nat.le_of_ble_eq_true rfl) (zset_5_8 F _ _ _) dX5_keep_66 ?_
      obtain ⟨I8, eI8, h⟩ := zlet_e h
      rw [← eI8]
      refine zr_aload_n C 1 rfl rfl dX5_keep_69 ?_
      refine zr_iload_n C 0 rfl rfl dX5_keep_70 ?_
      obtain ⟨A9, h10, h⟩ := zb_e h
      refine zr_callVv (n := 1) (As := [.int (I h0 8)]) C (c_X5_takeShares l D cy hZ h0 (I h0 8) k_h0 I8 A5 h10) wd_291 wd_293 wp_5 wd_1 wd_294 (by decide +kernel) ⟨(Nat.le_of_ble_eq_true rfl), (Nat.le_of_ble_eq_true rfl)⟩ rfl rfl ⟨Nat.le_of_ble_eq_true rfl, Nat.le_of_ble_eq_true rfl⟩ k_h0 (by decide) rfl rfl rfl (Nat.le_of_ble_eq_true rfl) dX5_keep_71 ?_
      refine zr_aload_n C 1 rfl rfl dX5_keep_74 ?_
      obtain ⟨r12, I13, A14, h15, h⟩ := zb3_e h
      refine zr_callVi (n := 0) (As := []) C (c_X5_settle l D cy hZ h0 k_h0 I8 A9 h15) wd_302 wd_304 wp_6 wd_1 wd_305 (by decide +kernel) ⟨(Nat.le_of_ble_eq_true rfl), (Nat.le_of_ble_eq_true rfl)⟩ rfl rfl ⟨Nat.le_of_ble_eq_true rfl, Nat.le_of_ble_eq_true rfl⟩ k_h0 (by decide) rfl rfl rfl (Nat.le_of_ble_eq_true rfl) dX5_keep_75 ?_
      refine zr_pop C rfl dX5_keep_78 ?_
      refine zr_iload_n C 0 rfl rfl dX5_keep_79 ?_
      cases zso h
      exact zr_iret C hr dX5_keep_80
    · have h := zif_f hc2 h
      exact zno h
  · have h := zif_f hc1 h
    exact zno h

def g_X5_takeRivals_9 (F G : Nat → Nat → Nat) (v0 : Nat) (v1 : Int32) (v2 : Nat) (v3 : Int32) (I : zH) (A : zH) : Option ((Int32 × zH) ⊕ (Int32 × zH)) :=
  if v1 < v3 then (
    some (.inr (v3, I))
  ) else (
    zck (¬ (v3 < 0 ∨ 6 ≤ v3.toNatClampNeg)) <|
    zb (f_X1_isRivalOf F G v2 (G (F v0 4) v3.toNatClampNeg) I A) fun r3 =>
    if r3 = 0 then (
      some (.inl (v3 + 1, I))
    ) else (
      zlet (up2 I v2 4 ((I v2 4) ||| ((1 : Int32) <<< (v3 &&& 31)))) fun I7 =>
      zck (¬ (v3 < 0 ∨ 6 ≤ v3.toNatClampNeg)) <|
      zlet (up2 I7 (G (F v0 4) v3.toNatClampNeg) 4 ((I7 (G (F v0 4) v3.toNatClampNeg) 4) ||| ((1 : Int32) <<< (v1 &&& 31)))) fun I9 =>
      some (.inl (v3 + 1, I9))
    )
  )
def f_X5_takeRivals (F G : Nat → Nat → Nat) (h0 : Nat) (p0 : Int32) (I A : zH) : Option (zH) :=
  zck (¬ (p0 < 0 ∨ 6 ≤ p0.toNatClampNeg)) <|
  zb2 (zIt (fun x => g_X5_takeRivals_9 F G h0 p0 (G (F h0 4) p0.toNatClampNeg) x.1 x.2 A) 2000 (0, I)) fun i2 I3 =>
  some I3
set_option maxHeartbeats 4000000 in
set_option maxRecDepth 100000 in
theorem wb_X5_takeRivals_9 (l : Launch) (D : va_G) (cy : Nat → ClassId) {L : List Nat} {K N : Nat → Nat} {F G : Nat → Nat → Nat} (hZ : ZL L K N F G) {p : Program} {e : Env} {R : Room} {s : State} {m : MethodId} {args : Array Value} {below : List Frame} {meth : Method} {c : Code} {cells slots : Nat} {Q : State → Prop} (C : ZC p s m args meth c cX5_takeRivals yX5_takeRivals.cls 4 D cy L K N F G) (hRf : 1 ≤ R.frames) (hRl : 21 ≤ R.locals) (hRc : cells ≤ R.cells ∧ slots ≤ R.slots)  (v0 : Nat) (v1 : Int32) (v2 : Nat) (k0 : K v0 = 5) (k2 : K v2 = 1) (A : zH) (v3 : Int32) (I : zH) (o : (Int32 × zH) ⊕ (Int32 × zH)) (h : g_X5_takeRivals_9 F G v0 v1 v2 v3 I A = some o)
    (hg : ∀ y : Int32 × zH, o = .inl y → ZW p l e R s m args below meth c 4 D cy L K N F G cells slots Q y.2 A 9 [(0, .ref v0), (1, .int v1), (2, .ref v2), (3, .int y.1)] [])
    (hx : ∀ y : Int32 × zH, o = .inr y → ZW p l e R s m args below meth c 4 D cy L K N F G cells slots Q y.2 A 62 [(0, .ref v0), (1, .int v1), (2, .ref v2), (3, .int y.1)] []) : ZW p l e R s m args below meth c 4 D cy L K N F G cells slots Q I A 9 [(0, .ref v0), (1, .int v1), (2, .ref v2), (3, .int v3)] [] := by
  unfold g_X5_takeRivals_9 at h
  refine zr_iload_n C 3 rfl rfl dX5_takeRivals_9 ?_
  refine zr_iload_n C 1 rfl rfl dX5_takeRivals_10 ?_
  refine zr_icmp_gt (tgt := 62) C (by decide) dX5_takeRivals_11 (fun hc1 => ?_) (fun hc1 => ?_)
  · have h := zif_t hc1 h
    obtain rfl := zso h
    refine zr_lv (lv' := [(0, .ref v0), (1, .int v1), (2, .ref v2), (3, .int v3)]) C [0, 1, 2, 3] rfl ?_
    exact hx _ rfl
  · have h := zif_f hc1 h
    refine zr_aload_n C 2 rfl rfl dX5_takeRivals_14 ?_
    refine zr_aload_n C 0 rfl rfl dX5_takeRivals_15 ?_
    refine zr_get (ci := 5) (k := 4) (v := .ref (F v0 4)) C k0 (by decide) rfl zinX5 (by decide) wd_162 rfl dX5_takeRivals_16 ?_
    refine zr_iload_n C 3 rfl rfl dX5_takeRivals_19 ?_
    obtain ⟨hc2, h⟩ := zck_e h
    refine zr_ald7 C (zt54 hZ k0).1 (zt54 hZ k0).2 hc2 dX5_takeRivals_20 ?_
    obtain ⟨r3, h4, h⟩ := zb_e h
    refine zr_callVi (n := 1) (As := [.ref (G (F v0 4) v3.toNatClampNeg)]) C (c_X1_isRivalOf l D cy hZ v2 (G (F v0 4) v3.toNatClampNeg) k2 (zt7 hZ (zt54 hZ k0).1 (z_ix (zt54 hZ k0).2 hc2)) I A h4) wd_428 wd_429 wd_430 wd_5 wd_431 (by decide +kernel) ⟨(Nat.le_trans (Nat.le_of_ble_eq_true rfl) hRf), (Nat.le_trans (Nat.le_of_ble_eq_true rfl) hRl)⟩ rfl rfl hRc k2 (by decide) rfl rfl rfl (Nat.le_of_ble_eq_true rfl) dX5_takeRivals_21 ?_
    refine zr_if_eq (tgt := 56) C (by decide) dX5_takeRivals_24 (fun hc6 => ?_) (fun hc6 => ?_)
    · have h := zif_t hc6 h
      refine zr_iinc (v := v3 + 1) (lv' := [(3, .int (v3 + 1)), (0, .ref v0), (1, .int v1), (2, .ref v2)]) C 3 rfl rfl (by decide) rfl dX5_takeRivals_56 ?_
      refine zr_goto (tgt := 9) C (by decide) dX5_takeRivals_59 ?_
      obtain rfl := zso h
      refine zr_lv (lv' := [(0, .ref v0), (1, .int v1), (2, .ref v2), (3, .int (v3 + 1))]) C [1, 2, 3, 0] rfl ?_
      exact hg _ rfl
    · have h := zif_f hc6 h
      refine zr_aload_n C 2 rfl rfl dX5_takeRivals_27 ?_
      refine zr_dup C rfl dX5_takeRivals_28 ?_
      refine zr_get (ci := 1) (k := 4) (v := .int (I v2 4)) C k2 (by decide) rfl zinX1 (by decide) wd_109 rfl dX5_takeRivals_29 ?_
      refine zr_iconst (v := 1) C (by decide) dX5_takeRivals_32 ?_
      refine zr_iload_n C 3 rfl rfl dX5_takeRivals_33 ?_
      refine zr_ishl C dX5_takeRivals_34 ?_
      refine zr_ior C dX5_takeRivals_35 ?_
      refine zr_put (ci := 1) (k := 4) (ty := .int) C tyX1 k2 (by decide) rfl zinX1 tyX1_ok nmX1 (by decide) wd_109 rfl (by decide +kernel) rfl rfl (Nat.le_of_ble_eq_true rfl) (zset_1_4 F _ _ _) dX5_takeRivals_36 ?_
      obtain ⟨I7, eI7, h⟩ := zlet_e h
      rw [← eI7]
      refine zr_aload_n C 0 rfl rfl dX5_takeRivals_39 ?_
      refine zr_get (ci := 5) (k := 4) (v := .ref (F v0 4)) C k0 (by decide) rfl zinX5 (by decide) wd_162 rfl dX5_takeRivals_40 ?_
      refine zr_iload_n C 3 rfl rfl dX5_takeRivals_43 ?_
      obtain ⟨hc8, h⟩ := zck_e h
      refine zr_ald7 C (zt54 hZ k0).1 (zt54 hZ k0).2 hc8 dX5_takeRivals_44 ?_
      refine zr_dup C rfl dX5_takeRivals_45 ?_
      refine zr_get (ci := 1) (k := 4) (v := .int (I7 (G (F v0 4) v3.toNatClampNeg) 4)) C (zt7 hZ (zt54 hZ k0).1 (z_ix (zt54 hZ k0).2 hc8)) (by decide) rfl zinX1 (by decide) wd_109 rfl dX5_takeRivals_46 ?_
      refine zr_iconst (v := 1) C (by decide) dX5_takeRivals_49 ?_
      refine zr_iload_n C 1 rfl rfl dX5_takeRivals_50 ?_
      refine zr_ishl C dX5_takeRivals_51 ?_
      refine zr_ior C dX5_takeRivals_52 ?_
      refine zr_put (ci := 1) (k := 4) (ty := .int) C tyX1 (zt7 hZ (zt54 hZ k0).1 (z_ix (zt54 hZ k0).2 hc8)) (by decide) rfl zinX1 tyX1_ok nmX1 (by decide) wd_109 rfl (by decide +kernel) rfl rfl (Nat.le_of_ble_eq_true rfl) (zset_1_4 F _ _ _) dX5_takeRivals_53 ?_
      obtain ⟨I9, eI9, h⟩ := zlet_e h
      rw [← eI9]
      refine zr_iinc (v := v3 + 1) (lv' := [(3, .int (v3 + 1)), (0, .ref v0), (1, .int v1), (2, .ref v2)]) C 3 rfl rfl (by decide) rfl dX5_takeRivals_56 ?_
      refine zr_goto (tgt := 9) C (by decide) dX5_takeRivals_59 ?_
      obtain rfl := zso h
      refine zr_lv (lv' := [(0, .ref v0), (1, .int v1), (2, .ref v2), (3, .int (v3 + 1))]) C [1, 2, 3, 0] rfl ?_
      exact hg _ rfl
set_option maxHeartbeats 4000000 in
set_option maxRecDepth 100000 in
theorem w_X5_takeRivals_9 (l : Launch) (D : va_G) (cy : Nat → ClassId) {L : List Nat} {K N : Nat → Nat} {F G : Nat → Nat → Nat} (hZ : ZL L K N F G) {p : Program} {e : Env} {R : Room} {s : State} {m : MethodId} {args : Array Value} {below : List Frame} {meth : Method} {c : Code} {cells slots : Nat} {Q : State → Prop} (C : ZC p s m args meth c cX5_takeRivals yX5_takeRivals.cls 4 D cy L K N F G) (hRf : 1 ≤ R.frames) (hRl : 21 ≤ R.locals) (hRc : cells ≤ R.cells ∧ slots ≤ R.slots)  (v0 : Nat) (v1 : Int32) (v2 : Nat) (k0 : K v0 = 5) (k2 : K v2 = 1) (A : zH) (n : Nat) (x : Int32 × zH) (o : Int32 × zH) (h : zIt (fun x => g_X5_takeRivals_9 F G v0 v1 v2 x.1 x.2 A) n x = some o)
    (hx : ZW p l e R s m args below meth c 4 D cy L K N F G cells slots Q o.2 A 62 [(0, .ref v0), (1, .int v1), (2, .ref v2), (3, .int o.1)] []) : ZW p l e R s m args below meth c 4 D cy L K N F G cells slots Q x.2 A 9 [(0, .ref v0), (1, .int v1), (2, .ref v2), (3, .int x.1)] [] := by
  induction n generalizing x with
  | zero => cases h
  | succ n ih =>
    unfold zIt at h
    cases hb : g_X5_takeRivals_9 F G v0 v1 v2 x.1 x.2 A with
    | none => rw [hb] at h; cases h
    | some q =>
      rw [hb] at h
      refine wb_X5_takeRivals_9 l D cy hZ C hRf hRl hRc v0 v1 v2 k0 k2 A x.1 x.2 q hb (fun y hy => ?_) (fun y hy => ?_)
      · subst hy; exact ih y h
      · subst hy; cases h; exact hx
set_option maxHeartbeats 4000000 in
set_option maxRecDepth 100000 in
theorem c_X5_takeRivals (l : Launch) (D : va_G) (cy : Nat → ClassId) {L : List Nat} {K N : Nat → Nat} {F G : Nat → Nat → Nat} (hZ : ZL L K N F G) (h0 : Nat) (p0 : Int32) (k_h0 : K h0 = 5) (I A : zH) {J' : zH} (h : f_X5_takeRivals F G h0 p0 I A = some J') : ZMv l yX5_takeRivals cX5_takeRivals 4 none { frames := 1, cells := 0, slots := 0, locals := 21 } D cy L K N F G [.ref h0, .int p0] I A J' A := by
  refine ZMv.of (nL := 4) hZ rfl rfl (by decide) (Nat.le_of_ble_eq_true rfl) (fun p e s m args below meth c C hr => ?_)
  unfold f_X5_takeRivals at h
  refine zr_lv (lv' := [(0, .ref h0), (1, .int p0)]) C [0, 1] rfl ?_
  refine zr_aload_n C 0 rfl rfl dX5_takeRivals_0 ?_
  refine zr_get (ci := 5) (k := 4) (v := .ref (F h0 4)) C k_h0 (by decide) rfl zinX5 (by decide) wd_162 rfl dX5_takeRivals_1 ?_
  refine zr_iload_n C 1 rfl rfl dX5_takeRivals_4 ?_
  obtain ⟨hc1, h⟩ := zck_e h
  refine zr_ald7 C (zt54 hZ k_h0).1 (zt54 hZ k_h0).2 hc1 dX5_takeRivals_5 ?_
  refine zr_astore_n (lv' := [(2, .ref (G (F h0 4) p0.toNatClampNeg)), (0, .ref h0), (1, .int p0)]) C rfl (by decide) rfl dX5_takeRivals_6 ?_
  refine zr_iconst (v := 0) C (by decide) dX5_takeRivals_7 ?_
  refine zr_istore_n (lv' := [(3, .int 0), (2, .ref (G (F h0 4) p0.toNatClampNeg)), (0, .ref h0), (1, .int p0)]) C rfl (by decide) rfl dX5_takeRivals_8 ?_
  obtain ⟨i2, I3, h4, h⟩ := zb2_e h
  refine zr_lv (lv' := [(0, .ref h0), (1, .int p0), (2, .ref (G (F h0 4) p0.toNatClampNeg)), (3, .int 0)]) C [2, 3, 1, 0] rfl ?_
  refine w_X5_takeRivals_9 l D cy hZ C (Nat.le_of_ble_eq_true rfl) (Nat.le_of_ble_eq_true rfl) ⟨Nat.le_of_ble_eq_true rfl, Nat.le_of_ble_eq_true rfl⟩ h0 p0 (G (F h0 4) p0.toNatClampNeg) k_h0 (zt7 hZ (zt54 hZ k_h0).1 (z_ix (zt54 hZ k_h0).2 hc1)) A 2000 (0, I) (i2, I3) h4 ?_
  obtain rfl := zso h
  exact zr_vret C hr dX5_takeRivals_62

def f_X5_licence (F G : Nat → Nat → Nat) (h0 : Nat) (p0 : Int32) (p1 : Int32) (p2 : Int32) (p3 : Int32) (I A : zH) : Option (Int32 × zH × zH) :=
  if p0 < 0 then (
    none
  ) else (
    if 32 ≤ p0 then (
      none
    ) else (
      if p1 < 0 then (
        none
      ) else (
        if p1 < 32 then (
          if p3 < 0 then (
            none
          ) else (
            if p3 ≤ 5 then (
              if (I h0 9) < 6 then (
                zck (¬ (I h0 9 < 0 ∨ 6 ≤ (I h0 9).toNatClampNeg)) <|
                zlet (up2 I (G (F h0 4) (I h0 9).toNatClampNeg) 0 p0) fun I9 =>
                zlet (up2 I9 (G (F h0 4) (I h0 9).toNatClampNeg) 1 p1) fun I10 =>
                zck (p2 = 0 ∨ p2 = 1) <|
                zlet (up2 I10 (G (F h0 4) (I h0 9).toNatClampNeg) 2 p2) fun I12 =>
                zlet (up2 I12 (G (F h0 4) (I h0 9).toNatClampNeg) 3 p3) fun I13 =>
                zlet (up2 I13 h0 9 ((I h0 9) + 1)) fun I14 =>
                zb (f_X5_takeRivals F G h0 (I h0 9) I14 A) fun I15 =>
                zb3 (f_X5_settle F G h0 I15 A) fun r18 I19 A20 =>
                some (I h0 9, I19, A20)
              ) else (
                none
              )
            ) else (
              none
            )
          )
        ) else (
          none
        )
      )
    )
  )
set_option maxHeartbeats 4000000 in
set_option maxRecDepth 100000 in
theorem c_X5_licence (l : Launch) (D : va_G) (cy : Nat → ClassId) {L : List Nat} {K N : Nat → Nat} {F G : Nat → Nat → Nat} (hZ : ZL L K N F G) (h0 : Nat) (p0 : Int32) (p1 : Int32) (p2 : Int32) (p3 : Int32) (k_h0 : K h0 = 5) (I A : zH) {r : Int32} {J' : zH} {B' : zH} (h : f_X5_licence F G h0 p0 p1 p2 p3 I A = some (r, J', B')) : ZMi l yX5_licence cX5_licence 7 (some .int) { frames := 6, cells := 0, slots := 0, locals := 138 } D cy L K N F G [.ref h0, .int p0, .int p1, .int p2, .int p3] I A r J' B' := by
  refine ZMi.of (nL := 7) hZ rfl rfl (by decide) (Nat.le_of_ble_eq_true rfl) (fun p e s m args below meth c C hr => ?_)
  unfold f_X5_licence at h
  refine zr_lv (lv' := [(0, .ref h0), (1, .int p0), (2, .int p1), (3, .int p2), (4, .int p3)]) C [0, 1, 2, 3, 4] rfl ?_
  refine zr_iload_n C 1 rfl rfl dX5_licence_0 ?_
  refine zr_if_lt (tgt := 20) C (by decide) dX5_licence_1 (fun hc1 => ?_) (fun hc1 => ?_)
  · have h := zif_t hc1 h
    exact zno h
  · have h := zif_f hc1 h
    refine zr_iload_n C 1 rfl rfl dX5_licence_4 ?_
    refine zr_bipush (v := 32) C (by decide) dX5_licence_5 ?_
    refine zr_icmp_ge (tgt := 20) C (by decide) dX5_licence_7 (fun hc2 => ?_) (fun hc2 => ?_)
    · have h := zif_t hc2 h
      exact zno h
    · have h := zif_f hc2 h
      refine zr_iload_n C 2 rfl rfl dX5_licence_10 ?_
      refine zr_if_lt (tgt := 20) C (by decide) dX5_licence_11 (fun hc3 => ?_) (fun hc3 => ?_)
      · have h := zif_t hc3 h
        exact zno h
      · have h := zif_f hc3 h
        refine zr_iload_n C 2 rfl rfl dX5_licence_14 ?_
        refine zr_bipush (v := 32) C (by decide) dX5_licence_15 ?_
        refine zr_icmp_lt (tgt := 30) C (by decide) dX5_licence_17 (fun hc4 => ?_) (fun hc4 => ?_)
        · have h := zif_t hc4 h
          refine zr_iload C 4 rfl dX5_licence_30 ?_
          refine zr_if_lt (tgt := 41) C (by decide) dX5_licence_32 (fun hc5 => ?_) (fun hc5 => ?_)
          · have h := zif_t hc5 h
            exact zno h
          · have h := zif_f hc5 h
            refine zr_iload C 4 rfl dX5_licence_35 ?_
            refine zr_iconst (v := 5) C (by decide) dX5_licence_37 ?_
            refine zr_icmp_le (tgt := 51) C (by decide) dX5_licence_38 (fun hc6 => ?_) (fun hc6 => ?_)
            · have h := zif_t hc6 h
              refine zr_aload_n C 0 rfl rfl dX5_licence_51 ?_
              refine zr_get (ci := 5) (k := 9) (v := .int (I h0 9)) C k_h0 (by decide) rfl zinX5 (by decide) wd_167 rfl dX5_licence_52 ?_
              refine zr_bipush (v := 6) C (by decide) dX5_licence_55 ?_
              refine zr_icmp_lt (tgt := 70) C (by decide) dX5_licence_57 (fun hc7 => ?_) (fun hc7 => ?_)
              · have h := zif_t hc7 h
                refine zr_aload_n C 0 rfl rfl dX5_licence_70 ?_
                refine zr_get (ci := 5) (k := 9) (v := .int (I h0 9)) C k_h0 (by decide) rfl zinX5 (by decide) wd_167 rfl dX5_licence_71 ?_
                refine zr_istore (lv' := [(5, .int (I h0 9)), (0, .ref h0), (1, .int p0), (2, .int p1), (3, .int p2), (4, .int p3)]) C (by decide) rfl dX5_licence_74 ?_
                refine zr_aload_n C 1 rfl rfl dX5_licence_76 ?_
                refine zr_get (ci := 5) (k := 4) (v := .ref (F h0 4)) C k_h0 (by decide) rfl zinX5 (by decide) wd_162 rfl dX5_licence_77 ?_
                refine zr_iload C 0 rfl dX5_licence_80 ?_
                obtain ⟨hc8, h⟩ := zck_e h
                refine zr_ald7 C (zt54 hZ k_h0).1 (zt54 hZ k_h0).2 hc8 dX5_licence_82 ?_
                refine zr_astore (lv' := [(6, .ref (G (F h0 4) (I h0 9).toNatClampNeg)), (5, .int (I h0 9)), (0, .ref h0), (1, .int p0), (2, .int p1), (3, .int p2), (4, .int p3)]) C (by decide) rfl dX5_licence_83 ?_
                refine zr_aload C 0 rfl dX5_licence_85 ?_
                refine zr_iload_n C 3 rfl rfl dX5_licence_87 ?_
                refine zr_put (ci := 1) (k := 0) (ty := .int) C tyX1 (zt7 hZ (zt54 hZ k_h0).1 (z_ix (zt54 hZ k_h0).2 hc8)) (by decide) rfl zinX1 tyX1_ok nmX1 (by decide) wd_99 rfl (by decide +kernel) rfl rfl (Nat.le_of_ble_eq_true rfl) (zset_1_0 F _ _ _) dX5_licence_88 ?_
                obtain ⟨I9, eI9, h⟩ := zlet_e h
                rw [← eI9]
                refine zr_aload C 0 rfl dX5_licence_91 ?_
                refine zr_iload_n C 4 rfl rfl dX5_licence_93 ?_
                refine zr_put (ci := 1) (k := 1) (ty := .int) C tyX1 (zt7 hZ (zt54 hZ k_h0).1 (z_ix (zt54 hZ k_h0).2 hc8)) (by decide) rfl zinX1 tyX1_ok nmX1 (by decide) wd_101 rfl (by decide +kernel) rfl rfl (Nat.le_of_ble_eq_true rfl) (zset_1_1 F _ _ _) dX5_licence_94 ?_
                obtain ⟨I10, eI10, h⟩ := zlet_e h
                rw [← eI10]
                refine zr_aload C 0 rfl dX5_licence_97 ?_
                refine zr_iload_n C 5 rfl rfl dX5_licence_99 ?_
                obtain ⟨hc11, h⟩ := zck_e h
                refine zr_put (ci := 1) (k := 2) (ty := .boolean) C tyX1 (zt7 hZ (zt54 hZ k_h0).1 (z_ix (zt54 hZ k_h0).2 hc8)) (by decide) rfl zinX1 tyX1_ok nmX1 (by decide) wd_104 rfl (by decide +kernel) (z_nb hc11) (z_fb hc11) (Nat.le_of_ble_eq_true rfl) (zset_1_2 F _ _ _) dX5_licence_100 ?_
                obtain ⟨I12, eI12, h⟩ := zlet_e h
                rw [← eI12]
                refine zr_aload C 0 rfl dX5_licence_103 ?_
                refine zr_iload C 6 rfl dX5_licence_105 ?_
                refine zr_put (ci := 1) (k := 3) (ty := .int) C tyX1 (zt7 hZ (zt54 hZ k_h0).1 (z_ix (zt54 hZ k_h0).2 hc8)) (by decide) rfl zinX1 tyX1_ok nmX1 (by decide) wd_106 rfl (by decide +kernel) rfl rfl (Nat.le_of_ble_eq_true rfl) (zset_1_3 F _ _ _) dX5_licence_107 ?_
                obtain ⟨I13, eI13, h⟩ := zlet_e h
                rw [← eI13]
                refine zr_aload_n C 2 rfl rfl dX5_licence_110 ?_
                refine zr_iload C 1 rfl dX5_licence_111 ?_
                refine zr_iconst (v := 1) C (by decide) dX5_licence_113 ?_
                refine zr_iadd C dX5_licence_114 ?_
                refine zr_put (ci := 5) (k := 9) (ty := .int) C tyX5 k_h0 (by decide) rfl zinX5 tyX5_ok nmX5 (by decide) wd_167 rfl (by decide +kernel) rfl rfl (Nat.le_of_ble_eq_true rfl) (zset_5_9 F _ _ _) dX5_licence_115 ?_
                obtain ⟨I14, eI14, h⟩ := zlet_e h
                rw [← eI14]
                refine zr_aload_n C 2 rfl rfl dX5_licence_118 ?_
                refine zr_iload C 1 rfl dX5_licence_119 ?_
                obtain ⟨I15, h16, h⟩ := zb_e h
                refine zr_callVv (n := 1) (As := [.int (I h0 9)]) C (c_X5_takeRivals l D cy hZ h0 (I h0 9) k_h0 I14 A h16) wd_424 wd_426 wp_13 wd_1 wd_427 (by decide +kernel) ⟨(Nat.le_of_ble_eq_true rfl), (Nat.le_of_ble_eq_true rfl)⟩ rfl rfl ⟨Nat.le_of_ble_eq_true rfl, Nat.le_of_ble_eq_true rfl⟩ k_h0 (by decide) rfl rfl rfl (Nat.le_of_ble_eq_true rfl) dX5_licence_121 ?_
                refine zr_aload_n C 2 rfl rfl dX5_licence_124 ?_
                obtain ⟨r18, I19, A20, h21, h⟩ := zb3_e h
                refine zr_callVi (n := 0) (As := []) C (c_X5_settle l D cy hZ h0 k_h0 I15 A h21) wd_302 wd_304 wp_6 wd_1 wd_305 (by decide +kernel) ⟨(Nat.le_of_ble_eq_true rfl), (Nat.le_of_ble_eq_true rfl)⟩ rfl rfl ⟨Nat.le_of_ble_eq_true rfl, Nat.le_of_ble_eq_true rfl⟩ k_h0 (by decide) rfl rfl rfl (Nat.le_of_ble_eq_true rfl) dX5_licence_125 ?_
                refine zr_pop C rfl dX5_licence_128 ?_
                refine zr_iload C 1 rfl dX5_licence_129 ?_
                cases zso h
                exact zr_iret C hr dX5_licence_131
              · have h := zif_f hc7 h
                exact zno h
            · have h := zif_f hc6 h
              exact zno h
        · have h := zif_f hc4 h
          exact zno h

def f_X5_tell (F G : Nat → Nat → Nat) (h0 : Nat) (p0 : Int32) (p1 : Int32) (I A : zH) : Option (Int32 × zH × zH) :=
  zb (f_X5_needPiece F G h0 p0 I A) fun _ =>
  if p1 = (-1) then (
    zck (¬ (p0 < 0 ∨ 16 ≤ p0.toNatClampNeg)) <|
    zlet (up2 I (G (F h0 1) p0.toNatClampNeg) 1 p1) fun I5 =>
    zb3 (f_X5_settle F G h0 I5 A) fun r6 I7 A8 =>
    some (r6, I7, A8)
  ) else (
    zb (f_X5_needLicence F G h0 p1 I A) fun _ =>
    zck (¬ (p0 < 0 ∨ 16 ≤ p0.toNatClampNeg)) <|
    zlet (up2 I (G (F h0 1) p0.toNatClampNeg) 1 p1) fun I14 =>
    zb3 (f_X5_settle F G h0 I14 A) fun r15 I16 A17 =>
    some (r15, I16, A17)
  )
set_option maxHeartbeats 4000000 in
set_option maxRecDepth 100000 in
theorem c_X5_tell (l : Launch) (D : va_G) (cy : Nat → ClassId) {L : List Nat} {K N : Nat → Nat} {F G : Nat → Nat → Nat} (hZ : ZL L K N F G) (h0 : Nat) (p0 : Int32) (p1 : Int32) (k_h0 : K h0 = 5) (I A : zH) {r : Int32} {J' : zH} {B' : zH} (h : f_X5_tell F G h0 p0 p1 I A = some (r, J', B')) : ZMi l yX5_tell cX5_tell 3 (some .int) { frames := 6, cells := 0, slots := 0, locals := 138 } D cy L K N F G [.ref h0, .int p0, .int p1] I A r J' B' := by
  refine ZMi.of (nL := 3) hZ rfl rfl (by decide) (Nat.le_of_ble_eq_true rfl) (fun p e s m args below meth c C hr => ?_)
  unfold f_X5_tell at h
  refine zr_lv (lv' := [(0, .ref h0), (1, .int p0), (2, .int p1)]) C [0, 1, 2] rfl ?_
  refine zr_aload_n C 0 rfl rfl dX5_tell_0 ?_
  refine zr_iload_n C 1 rfl rfl dX5_tell_1 ?_
  obtain ⟨_, h1, h⟩ := zb_e h
  refine zr_callVv (n := 1) (As := [.int p0]) C (c_X5_needPiece l D cy hZ h0 p0 k_h0 I A h1) wd_368 wd_370 wp_10 wd_1 wd_371 (by decide +kernel) ⟨(Nat.le_of_ble_eq_true rfl), (Nat.le_of_ble_eq_true rfl)⟩ rfl rfl ⟨Nat.le_of_ble_eq_true rfl, Nat.le_of_ble_eq_true rfl⟩ k_h0 (by decide) rfl rfl rfl (Nat.le_of_ble_eq_true rfl) dX5_tell_2 ?_
  refine zr_iload_n C 2 rfl rfl dX5_tell_5 ?_
  refine zr_iconst (v := (-1)) C (by decide) dX5_tell_6 ?_
  refine zr_icmp_eq (tgt := 15) C (by decide) dX5_tell_7 (fun hc3 => ?_) (fun hc3 => ?_)
  · have h := zif_t hc3 h
    refine zr_aload_n C 0 rfl rfl dX5_tell_15 ?_
    refine zr_get (ci := 5) (k := 1) (v := .ref (F h0 1)) C k_h0 (by decide) rfl zinX5 (by decide) wd_159 rfl dX5_tell_16 ?_
    refine zr_iload_n C 1 rfl rfl dX5_tell_19 ?_
    obtain ⟨hc4, h⟩ := zck_e h
    refine zr_ald8 C (zt51 hZ k_h0).1 (zt51 hZ k_h0).2 hc4 dX5_tell_20 ?_
    refine zr_iload_n C 2 rfl rfl dX5_tell_21 ?_
    refine zr_put (ci := 2) (k := 1) (ty := .int) C tyX2 (zt8 hZ (zt51 hZ k_h0).1 (z_ix (zt51 hZ k_h0).2 hc4)) (by decide) rfl zinX2 tyX2_ok nmX2 (by decide) wd_82 rfl (by decide +kernel) rfl rfl (Nat.le_of_ble_eq_true rfl) (zset_2_1 F _ _ _) dX5_tell_22 ?_
    obtain ⟨I5, eI5, h⟩ := zlet_e h
    rw [← eI5]
    refine zr_aload_n C 0 rfl rfl dX5_tell_25 ?_
    obtain ⟨r6, I7, A8, h9, h⟩ := zb3_e h
    refine zr_callVi (n := 0) (As := []) C (c_X5_settle l D cy hZ h0 k_h0 I5 A h9) wd_302 wd_304 wp_6 wd_1 wd_305 (by decide +kernel) ⟨(Nat.le_of_ble_eq_true rfl), (Nat.le_of_ble_eq_true rfl)⟩ rfl rfl ⟨Nat.le_of_ble_eq_true rfl, Nat.le_of_ble_eq_true rfl⟩ k_h0 (by decide) rfl rfl rfl (Nat.le_of_ble_eq_true rfl) dX5_tell_26 ?_
    cases zso h
    exact zr_iret C hr dX5_tell_29
  · have h := zif_f hc3 h
    refine zr_aload_n C 0 rfl rfl dX5_tell_10 ?_
    refine zr_iload_n C 2 rfl rfl dX5_tell_11 ?_
    obtain ⟨_, h11, h⟩ := zb_e h
    refine zr_callVv (n := 1) (As := [.int p1]) C (c_X5_needLicence l D cy hZ h0 p1 k_h0 I A h11) wd_436 wd_438 wp_14 wd_1 wd_439 (by decide +kernel) ⟨(Nat.le_of_ble_eq_true rfl), (Nat.le_of_ble_eq_true rfl)⟩ rfl rfl ⟨Nat.le_of_ble_eq_true rfl, Nat.le_of_ble_eq_true rfl⟩ k_h0 (by decide) rfl rfl rfl (Nat.le_of_ble_eq_true rfl) dX5_tell_12 ?_
    refine zr_aload_n C 0 rfl rfl dX5_tell_15 ?_
    refine zr_get (ci := 5) (k := 1) (v := .ref (F h0 1)) C k_h0 (by decide) rfl zinX5 (by decide) wd_159 rfl dX5_tell_16 ?_
    refine zr_iload_n C 1 rfl rfl dX5_tell_19 ?_
    obtain ⟨hc13, h⟩ := zck_e h
    refine zr_ald8 C (zt51 hZ k_h0).1 (zt51 hZ k_h0).2 hc13 dX5_tell_20 ?_
    refine zr_iload_n C 2 rfl rfl dX5_tell_21 ?_
    refine zr_put (ci := 2) (k := 1) (ty := .int) C tyX2 (zt8 hZ (zt51 hZ k_h0).1 (z_ix (zt51 hZ k_h0).2 hc13)) (by decide) rfl zinX2 tyX2_ok nmX2 (by decide) wd_82 rfl (by decide +kernel) rfl rfl (Nat.le_of_ble_eq_true rfl) (zset_2_1 F _ _ _) dX5_tell_22 ?_
    obtain ⟨I14, eI14, h⟩ := zlet_e h
    rw [← eI14]
    refine zr_aload_n C 0 rfl rfl dX5_tell_25 ?_
    obtain ⟨r15, I16, A17, h18, h⟩ := zb3_e h
    refine zr_callVi (n := 0) (As := []) C (c_X5_settle l D cy hZ h0 k_h0 I14 A h18) wd_302 wd_304 wp_6 wd_1 wd_305 (by decide +kernel) ⟨(Nat.le_of_ble_eq_true rfl), (Nat.le_of_ble_eq_true rfl)⟩ rfl rfl ⟨Nat.le_of_ble_eq_true rfl, Nat.le_of_ble_eq_true rfl⟩ k_h0 (by decide) rfl rfl rfl (Nat.le_of_ble_eq_true rfl) dX5_tell_26 ?_
    cases zso h
    exact zr_iret C hr dX5_tell_29

def f_X5_ask (F G : Nat → Nat → Nat) (h0 : Nat) (p0 : Int32) (p1 : Int32) (I A : zH) : Option (Int32 × zH × zH) :=
  zb (f_X5_needPiece F G h0 p0 I A) fun _ =>
  zb (f_X5_needLicence F G h0 p1 I A) fun _ =>
  zb (f_X0_licencesOf F G (F h0 6) p0 I A) fun r5 =>
  zb (f_X5_hasBit F G r5 p1 I A) fun r8 =>
  if r8 = 0 then (
    none
  ) else (
    zck (¬ (p1 < 0 ∨ 6 ≤ p1.toNatClampNeg)) <|
    if 0 < (I (G (F h0 4) p1.toNatClampNeg) 3) then (
      zlet (up2 I (G (F h0 4) p1.toNatClampNeg) 3 ((I (G (F h0 4) p1.toNatClampNeg) 3) - 1)) fun I14 =>
      zck (¬ (p0 < 0 ∨ 16 ≤ p0.toNatClampNeg)) <|
      zlet (up2 I14 (G (F h0 1) p0.toNatClampNeg) 2 ((I14 (G (F h0 1) p0.toNatClampNeg) 2) ||| ((1 : Int32) <<< (p1 &&& 31)))) fun I16 =>
      zlet (up2 I16 h0 11 ((I16 h0 11) + 1)) fun I17 =>
      zb3 (f_X5_settle F G h0 I17 A) fun r18 I19 A20 =>
      some (1, I19, A20)
    ) else (
      some (0, I, A)
    )
  )
set_option maxHeartbeats 4000000 in
set_option maxRecDepth 100000 in
theorem c_X5_ask (l : Launch) (D : va_G) (cy : Nat → ClassId) {L : List Nat} {K N : Nat → Nat} {F G : Nat → Nat → Nat} (hZ : ZL L K N F G) (h0 : Nat) (p0 : Int32) (p1 : Int32) (k_h0 : K h0 = 5) (I A : zH) {r : Int32} {J' : zH} {B' : zH} (h : f_X5_ask F G h0 p0 p1 I A = some (r, J', B')) : ZMi l yX5_ask cX5_ask 4 (some .boolean) { frames := 6, cells := 0, slots := 0, locals := 138 } D cy L K N F G [.ref h0, .int p0, .int p1] I A r J' B' := by
  refine ZMi.of (nL := 4) hZ rfl rfl (by decide) (Nat.le_of_ble_eq_true rfl) (fun p e s m args below meth c C hr => ?_)
  unfold f_X5_ask at h
  refine zr_lv (lv' := [(0, .ref h0), (1, .int p0), (2, .int p1)]) C [0, 1, 2] rfl ?_
  refine zr_aload_n C 0 rfl rfl dX5_ask_0 ?_
  refine zr_iload_n C 1 rfl rfl dX5_ask_1 ?_
  obtain ⟨_, h1, h⟩ := zb_e h
  refine zr_callVv (n := 1) (As := [.int p0]) C (c_X5_needPiece l D cy hZ h0 p0 k_h0 I A h1) wd_368 wd_370 wp_10 wd_1 wd_371 (by decide +kernel) ⟨(Nat.le_of_ble_eq_true rfl), (Nat.le_of_ble_eq_true rfl)⟩ rfl rfl ⟨Nat.le_of_ble_eq_true rfl, Nat.le_of_ble_eq_true rfl⟩ k_h0 (by decide) rfl rfl rfl (Nat.le_of_ble_eq_true rfl) dX5_ask_2 ?_
  refine zr_aload_n C 0 rfl rfl dX5_ask_5 ?_
  refine zr_iload_n C 2 rfl rfl dX5_ask_6 ?_
  obtain ⟨_, h3, h⟩ := zb_e h
  refine zr_callVv (n := 1) (As := [.int p1]) C (c_X5_needLicence l D cy hZ h0 p1 k_h0 I A h3) wd_436 wd_438 wp_14 wd_1 wd_439 (by decide +kernel) ⟨(Nat.le_of_ble_eq_true rfl), (Nat.le_of_ble_eq_true rfl)⟩ rfl rfl ⟨Nat.le_of_ble_eq_true rfl, Nat.le_of_ble_eq_true rfl⟩ k_h0 (by decide) rfl rfl rfl (Nat.le_of_ble_eq_true rfl) dX5_ask_7 ?_
  refine zr_aload_n C 0 rfl rfl dX5_ask_10 ?_
  refine zr_get (ci := 5) (k := 6) (v := .ref (F h0 6)) C k_h0 (by decide) rfl zinX5 (by decide) wd_164 rfl dX5_ask_11 ?_
  refine zr_iload_n C 1 rfl rfl dX5_ask_14 ?_
  obtain ⟨r5, h6, h⟩ := zb_e h
  refine zr_callVi (n := 1) (As := [.int p0]) C (c_X0_licencesOf l D cy hZ (F h0 6) p0 (zt56 hZ k_h0) I A h6) wd_314 wd_315 wd_316 wd_3 wd_317 (by decide +kernel) ⟨(Nat.le_of_ble_eq_true rfl), (Nat.le_of_ble_eq_true rfl)⟩ rfl rfl ⟨Nat.le_of_ble_eq_true rfl, Nat.le_of_ble_eq_true rfl⟩ (zt56 hZ k_h0) (by decide) rfl rfl rfl (Nat.le_of_ble_eq_true rfl) dX5_ask_15 ?_
  refine zr_iload_n C 2 rfl rfl dX5_ask_18 ?_
  obtain ⟨r8, h9, h⟩ := zb_e h
  refine zr_callSi (n := 2) (As := [.int r5, .int p1]) C (c_X5_hasBit l D cy hZ r5 p1 I A h9) wd_392 wd_323 wd_1 wd_324 (by decide +kernel) ⟨(Nat.le_of_ble_eq_true rfl), (Nat.le_of_ble_eq_true rfl)⟩ rfl rfl ⟨Nat.le_of_ble_eq_true rfl, Nat.le_of_ble_eq_true rfl⟩ rfl rfl (Nat.le_of_ble_eq_true rfl) dX5_ask_19 ?_
  refine zr_if_ne (tgt := 35) C (by decide) dX5_ask_22 (fun hc11 => ?_) (fun hc11 => ?_)
  · have h := zif_f hc11 h
    refine zr_aload_n C 0 rfl rfl dX5_ask_35 ?_
    refine zr_get (ci := 5) (k := 4) (v := .ref (F h0 4)) C k_h0 (by decide) rfl zinX5 (by decide) wd_162 rfl dX5_ask_36 ?_
    refine zr_iload_n C 2 rfl rfl dX5_ask_39 ?_
    obtain ⟨hc12, h⟩ := zck_e h
    refine zr_ald7 C (zt54 hZ k_h0).1 (zt54 hZ k_h0).2 hc12 dX5_ask_40 ?_
    refine zr_astore_n (lv' := [(3, .ref (G (F h0 4) p1.toNatClampNeg)), (0, .ref h0), (1, .int p0), (2, .int p1)]) C rfl (by decide) rfl dX5_ask_41 ?_
    refine zr_aload_n C 0 rfl rfl dX5_ask_42 ?_
    refine zr_get (ci := 1) (k := 3) (v := .int (I (G (F h0 4) p1.toNatClampNeg) 3)) C (zt7 hZ (zt54 hZ k_h0).1 (z_ix (zt54 hZ k_h0).2 hc12)) (by decide) rfl zinX1 (by decide) wd_106 rfl dX5_ask_43 ?_
    refine zr_if_gt (tgt := 51) C (by decide) dX5_ask_46 (fun hc13 => ?_) (fun hc13 => ?_)
    · have h := zif_t hc13 h
      refine zr_aload_n C 0 rfl rfl dX5_ask_51 ?_
      refine zr_dup C rfl dX5_ask_52 ?_
      refine zr_get (ci := 1) (k := 3) (v := .int (I (G (F h0 4) p1.toNatClampNeg) 3)) C (zt7 hZ (zt54 hZ k_h0).1 (z_ix (zt54 hZ k_h0).2 hc12)) (by decide) rfl zinX1 (by decide) wd_106 rfl dX5_ask_53 ?_
      refine zr_iconst (v := 1) C (by decide) dX5_ask_56 ?_
      refine zr_isub C dX5_ask_57 ?_
      refine zr_put (ci := 1) (k := 3) (ty := .int) C tyX1 (zt7 hZ (zt54 hZ k_h0).1 (z_ix (zt54 hZ k_h0).2 hc12)) (by decide) rfl zinX1 tyX1_ok nmX1 (by decide) wd_106 rfl (by decide +kernel) rfl rfl (Nat.le_of_ble_eq_true rfl) (zset_1_3 F _ _ _) dX5_ask_58 ?_
      obtain ⟨I14, eI14, h⟩ := zlet_e h
      rw [← eI14]
      refine zr_aload_n C 1 rfl rfl dX5_ask_61 ?_
      refine zr_get (ci := 5) (k := 1) (v := .ref (F h0 1)) C k_h0 (by decide) rfl zinX5 (by decide) wd_159 rfl dX5_ask_62 ?_
      refine zr_iload_n C 2 rfl rfl dX5_ask_65 ?_
      obtain ⟨hc15, h⟩ := zck_e h
      refine zr_ald8 C (zt51 hZ k_h0).1 (zt51 hZ k_h0).2 hc15 dX5_ask_66 ?_
      refine zr_dup C rfl dX5_ask_67 ?_
      refine zr_get (ci := 2) (k := 2) (v := .int (I14 (G (F h0 1) p0.toNatClampNeg) 2)) C (zt8 hZ (zt51 hZ k_h0).1 (z_ix (zt51 hZ k_h0).2 hc15)) (by decide) rfl zinX2 (by decide) wd_84 rfl dX5_ask_68 ?_
      refine zr_iconst (v := 1) C (by decide) dX5_ask_71 ?_
      refine zr_iload_n C 3 rfl rfl dX5_ask_72 ?_
      refine zr_ishl C dX5_ask_73 ?_
      refine zr_ior C dX5_ask_74 ?_
      refine zr_put (ci := 2) (k := 2) (ty := .int) C tyX2 (zt8 hZ (zt51 hZ k_h0).1 (z_ix (zt51 hZ k_h0).2 hc15)) (by decide) rfl zinX2 tyX2_ok nmX2 (by decide) wd_84 rfl (by decide +kernel) rfl rfl (Nat.le_of_ble_eq_true rfl) (zset_2_2 F _ _ _) dX5_ask_75 ?_
      obtain ⟨I16, eI16, h⟩ := zlet_e h
      rw [← eI16]
      refine zr_aload_n C 1 rfl rfl dX5_ask_78 ?_
      refine zr_dup C rfl dX5_ask_79 ?_
      refine zr_get (ci := 5) (k := 11) (v := .int (I16 h0 11)) C k_h0 (by decide) rfl zinX5 (by decide) wd_169 rfl dX5_ask_80 ?_
      refine zr_iconst (v := 1) C (by decide) dX5_ask_83 ?_
      refine zr_iadd C dX5_ask_84 ?_
      refine zr_put (ci := 5) (k := 11) (ty := .int) C tyX5 k_h0 (by decide) rfl zinX5 tyX5_ok nmX5 (by decide) wd_169 rfl (by decide +kernel) rfl rfl (Nat.le_of_ble_eq_true rfl) (zset_5_11 F _ _ _) dX5_ask_85 ?_
      obtain ⟨I17, eI17, h⟩ := zlet_e h
      rw [← eI17]
      refine zr_aload_n C 1 rfl rfl dX5_ask_88 ?_
      obtain ⟨r18, I19, A20, h21, h⟩ := zb3_e h
      refine zr_callVi (n := 0) (As := []) C (c_X5_settle l D cy hZ h0 k_h0 I17 A h21) wd_302 wd_304 wp_6 wd_1 wd_305 (by decide +kernel) ⟨(Nat.le_of_ble_eq_true rfl), (Nat.le_of_ble_eq_true rfl)⟩ rfl rfl ⟨Nat.le_of_ble_eq_true rfl, Nat.le_of_ble_eq_true rfl⟩ k_h0 (by decide) rfl rfl rfl (Nat.le_of_ble_eq_true rfl) dX5_ask_89 ?_
      refine zr_pop C rfl dX5_ask_92 ?_
      refine zr_iconst (v := 1) C (by decide) dX5_ask_93 ?_
      cases zso h
      exact zr_zret C hr rfl dX5_ask_94
    · have h := zif_f hc13 h
      refine zr_iconst (v := 0) C (by decide) dX5_ask_49 ?_
      cases zso h
      exact zr_zret C hr rfl dX5_ask_50
  · have h := zif_t hc11 h
    exact zno h

def f_X5_project (F G : Nat → Nat → Nat) (h0 : Nat) (I A : zH) : Option (Int32 × zH) :=
  if (I h0 10) < 5 then (
    zlet (up2 I h0 10 ((I h0 10) + 1)) fun I2 =>
    some (I h0 10, I2)
  ) else (
    none
  )
set_option maxHeartbeats 4000000 in
set_option maxRecDepth 100000 in
theorem c_X5_project (l : Launch) (D : va_G) (cy : Nat → ClassId) {L : List Nat} {K N : Nat → Nat} {F G : Nat → Nat → Nat} (hZ : ZL L K N F G) (h0 : Nat) (k_h0 : K h0 = 5) (I A : zH) {r : Int32} {J' : zH} (h : f_X5_project F G h0 I A = some (r, J')) : ZMi l yX5_project cX5_project 2 (some .int) { frames := 0, cells := 0, slots := 0, locals := 0 } D cy L K N F G [.ref h0] I A r J' A := by
  refine ZMi.of (nL := 2) hZ rfl rfl (by decide) (Nat.le_of_ble_eq_true rfl) (fun p e s m args below meth c C hr => ?_)
  unfold f_X5_project at h
  refine zr_lv (lv' := [(0, .ref h0)]) C [0] rfl ?_
  refine zr_aload_n C 0 rfl rfl dX5_project_0 ?_
  refine zr_get (ci := 5) (k := 10) (v := .int (I h0 10)) C k_h0 (by decide) rfl zinX5 (by decide) wd_168 rfl dX5_project_1 ?_
  refine zr_iconst (v := 5) C (by decide) dX5_project_4 ?_
  refine zr_icmp_lt (tgt := 18) C (by decide) dX5_project_5 (fun hc1 => ?_) (fun hc1 => ?_)
  · have h := zif_t hc1 h
    refine zr_aload_n C 0 rfl rfl dX5_project_18 ?_
    refine zr_get (ci := 5) (k := 10) (v := .int (I h0 10)) C k_h0 (by decide) rfl zinX5 (by decide) wd_168 rfl dX5_project_19 ?_
    refine zr_istore_n (lv' := [(1, .int (I h0 10)), (0, .ref h0)]) C rfl (by decide) rfl dX5_project_22 ?_
    refine zr_aload_n C 1 rfl rfl dX5_project_23 ?_
    refine zr_iload_n C 0 rfl rfl dX5_project_24 ?_
    refine zr_iconst (v := 1) C (by decide) dX5_project_25 ?_
    refine zr_iadd C dX5_project_26 ?_
    refine zr_put (ci := 5) (k := 10) (ty := .int) C tyX5 k_h0 (by decide) rfl zinX5 tyX5_ok nmX5 (by decide) wd_168 rfl (by decide +kernel) rfl rfl (Nat.le_of_ble_eq_true rfl) (zset_5_10 F _ _ _) dX5_project_27 ?_
    obtain ⟨I2, eI2, h⟩ := zlet_e h
    rw [← eI2]
    refine zr_iload_n C 0 rfl rfl dX5_project_30 ?_
    cases zso h
    exact zr_iret C hr dX5_project_31
  · have h := zif_f hc1 h
    exact zno h

def f_X5_node (F G : Nat → Nat → Nat) (h0 : Nat) (p0 : Int32) (p1 : Int32) (p2 : Int32) (I A : zH) : Option (Int32 × zH × zH) :=
  zb (f_X5_needNode F G h0 p0 p1 I A) fun _ =>
  if p2 = (-1) then (
    zck (¬ (p0 < 0 ∨ 5 ≤ p0.toNatClampNeg)) <|
    zb (f_X3_firstFreeNode F G (G (F h0 5) p0.toNatClampNeg) I A) fun r5 =>
    if r5 = (-1) then (
      none
    ) else (
      zck (¬ (p0 < 0 ∨ 5 ≤ p0.toNatClampNeg)) <|
      zb2 (f_X3_grow F G (G (F h0 5) p0.toNatClampNeg) r5 p1 p2 I A) fun I10 A11 =>
      zb3 (f_X5_settle F G h0 I10 A11) fun r14 I15 A16 =>
      some (r5, I15, A16)
    )
  ) else (
    zb (f_X5_needPiece F G h0 p2 I A) fun _ =>
    zck (¬ (p0 < 0 ∨ 5 ≤ p0.toNatClampNeg)) <|
    zb (f_X3_firstFreeNode F G (G (F h0 5) p0.toNatClampNeg) I A) fun r22 =>
    if r22 = (-1) then (
      none
    ) else (
      zck (¬ (p0 < 0 ∨ 5 ≤ p0.toNatClampNeg)) <|
      zb2 (f_X3_grow F G (G (F h0 5) p0.toNatClampNeg) r22 p1 p2 I A) fun I27 A28 =>
      zb3 (f_X5_settle F G h0 I27 A28) fun r31 I32 A33 =>
      some (r22, I32, A33)
    )
  )
set_option maxHeartbeats 4000000 in
set_option maxRecDepth 100000 in
theorem c_X5_node (l : Launch) (D : va_G) (cy : Nat → ClassId) {L : List Nat} {K N : Nat → Nat} {F G : Nat → Nat → Nat} (hZ : ZL L K N F G) (h0 : Nat) (p0 : Int32) (p1 : Int32) (p2 : Int32) (k_h0 : K h0 = 5) (I A : zH) {r : Int32} {J' : zH} {B' : zH} (h : f_X5_node F G h0 p0 p1 p2 I A = some (r, J', B')) : ZMi l yX5_node cX5_node 5 (some .int) { frames := 6, cells := 0, slots := 0, locals := 138 } D cy L K N F G [.ref h0, .int p0, .int p1, .int p2] I A r J' B' := by
  refine ZMi.of (nL := 5) hZ rfl rfl (by decide) (Nat.le_of_ble_eq_true rfl) (fun p e s m args below meth c C hr => ?_)
  unfold f_X5_node at h
  refine zr_lv (lv' := [(0, .ref h0), (1, .int p0), (2, .int p1), (3, .int p2)]) C [0, 1, 2, 3] rfl ?_
  refine zr_aload_n C 0 rfl rfl dX5_node_0 ?_
  refine zr_iload_n C 1 rfl rfl dX5_node_1 ?_
  refine zr_iload_n C 2 rfl rfl dX5_node_2 ?_
  obtain ⟨_, h1, h⟩ := zb_e h
  refine zr_callVv (n := 2) (As := [.int p0, .int p1]) C (c_X5_needNode l D cy hZ h0 p0 p1 k_h0 I A h1) wd_464 wd_466 wp_16 wd_1 wd_467 (by decide +kernel) ⟨(Nat.le_of_ble_eq_true rfl), (Nat.le_of_ble_eq_true rfl)⟩ rfl rfl ⟨Nat.le_of_ble_eq_true rfl, Nat.le_of_ble_eq_true rfl⟩ k_h0 (by decide) rfl rfl rfl (Nat.le_of_ble_eq_true rfl) dX5_node_3 ?_
  refine zr_iload_n C 3 rfl rfl dX5_node_6 ?_
  refine zr_iconst (v := (-1)) C (by decide) dX5_node_7 ?_
  refine zr_icmp_eq (tgt := 16) C (by decide) dX5_node_8 (fun hc3 => ?_) (fun hc3 => ?_)
  · have h := zif_t hc3 h
    refine zr_aload_n C 0 rfl rfl dX5_node_16 ?_
    refine zr_get (ci := 5) (k := 5) (v := .ref (F h0 5)) C k_h0 (by decide) rfl zinX5 (by decide) wd_163 rfl dX5_node_17 ?_
    refine zr_iload_n C 1 rfl rfl dX5_node_20 ?_
    obtain ⟨hc4, h⟩ := zck_e h
    refine zr_ald9 C (zt55 hZ k_h0).1 (zt55 hZ k_h0).2 hc4 dX5_node_21 ?_
    obtain ⟨r5, h6, h⟩ := zb_e h
    refine zr_callVi (n := 0) (As := []) C (c_X3_firstFreeNode l D cy hZ (G (F h0 5) p0.toNatClampNeg) (zt9 hZ (zt55 hZ k_h0).1 (z_ix (zt55 hZ k_h0).2 hc4)) I A h6) wd_478 wd_479 wd_480 wd_6 wd_481 (by decide +kernel) ⟨(Nat.le_of_ble_eq_true rfl), (Nat.le_of_ble_eq_true rfl)⟩ rfl rfl ⟨Nat.le_of_ble_eq_true rfl, Nat.le_of_ble_eq_true rfl⟩ (zt9 hZ (zt55 hZ k_h0).1 (z_ix (zt55 hZ k_h0).2 hc4)) (by decide) rfl rfl rfl (Nat.le_of_ble_eq_true rfl) dX5_node_22 ?_
    refine zr_istore (lv' := [(4, .int r5), (0, .ref h0), (1, .int p0), (2, .int p1), (3, .int p2)]) C (by decide) rfl dX5_node_25 ?_
    refine zr_iload C 0 rfl dX5_node_27 ?_
    refine zr_iconst (v := (-1)) C (by decide) dX5_node_29 ?_
    refine zr_icmp_ne (tgt := 43) C (by decide) dX5_node_30 (fun hc8 => ?_) (fun hc8 => ?_)
    · have h := zif_f hc8 h
      refine zr_aload_n C 1 rfl rfl dX5_node_43 ?_
      refine zr_get (ci := 5) (k := 5) (v := .ref (F h0 5)) C k_h0 (by decide) rfl zinX5 (by decide) wd_163 rfl dX5_node_44 ?_
      refine zr_iload_n C 2 rfl rfl dX5_node_47 ?_
      obtain ⟨hc9, h⟩ := zck_e h
      refine zr_ald9 C (zt55 hZ k_h0).1 (zt55 hZ k_h0).2 hc9 dX5_node_48 ?_
      refine zr_iload C 0 rfl dX5_node_49 ?_
      refine zr_iload_n C 3 rfl rfl dX5_node_51 ?_
      refine zr_iload_n C 4 rfl rfl dX5_node_52 ?_
      obtain ⟨I10, A11, h12, h⟩ := zb2_e h
      refine zr_callVv (n := 3) (As := [.int r5, .int p1, .int p2]) C (c_X3_grow l D cy hZ (G (F h0 5) p0.toNatClampNeg) r5 p1 p2 (zt9 hZ (zt55 hZ k_h0).1 (z_ix (zt55 hZ k_h0).2 hc9)) I A h12) wd_483 wd_484 wd_485 wd_6 wd_486 (by decide +kernel) ⟨(Nat.le_of_ble_eq_true rfl), (Nat.le_of_ble_eq_true rfl)⟩ rfl rfl ⟨Nat.le_of_ble_eq_true rfl, Nat.le_of_ble_eq_true rfl⟩ (zt9 hZ (zt55 hZ k_h0).1 (z_ix (zt55 hZ k_h0).2 hc9)) (by decide) rfl rfl rfl (Nat.le_of_ble_eq_true rfl) dX5_node_53 ?_
      refine zr_aload_n C 1 rfl rfl dX5_node_56 ?_
      obtain ⟨r14, I15, A16, h17, h⟩ := zb3_e h
      refine zr_callVi (n := 0) (As := []) C (c_X5_settle l D cy hZ h0 k_h0 I10 A11 h17) wd_302 wd_304 wp_6 wd_1 wd_305 (by decide +kernel) ⟨(Nat.le_of_ble_eq_true rfl), (Nat.le_of_ble_eq_true rfl)⟩ rfl rfl ⟨Nat.le_of_ble_eq_true rfl, Nat.le_of_ble_eq_true rfl⟩ k_h0 (by decide) rfl rfl rfl (Nat.le_of_ble_eq_true rfl) dX5_node_57 ?_
      refine zr_pop C rfl dX5_node_60 ?_
      refine zr_iload C 0 rfl dX5_node_61 ?_
      cases zso h
      exact zr_iret C hr dX5_node_63
    · have h := zif_t hc8 h
      exact zno h
  · have h := zif_f hc3 h
    refine zr_aload_n C 0 rfl rfl dX5_node_11 ?_
    refine zr_iload_n C 3 rfl rfl dX5_node_12 ?_
    obtain ⟨_, h19, h⟩ := zb_e h
    refine zr_callVv (n := 1) (As := [.int p2]) C (c_X5_needPiece l D cy hZ h0 p2 k_h0 I A h19) wd_368 wd_370 wp_10 wd_1 wd_371 (by decide +kernel) ⟨(Nat.le_of_ble_eq_true rfl), (Nat.le_of_ble_eq_true rfl)⟩ rfl rfl ⟨Nat.le_of_ble_eq_true rfl, Nat.le_of_ble_eq_true rfl⟩ k_h0 (by decide) rfl rfl rfl (Nat.le_of_ble_eq_true rfl) dX5_node_13 ?_
    refine zr_aload_n C 0 rfl rfl dX5_node_16 ?_
    refine zr_get (ci := 5) (k := 5) (v := .ref (F h0 5)) C k_h0 (by decide) rfl zinX5 (by decide) wd_163 rfl dX5_node_17 ?_
    refine zr_iload_n C 1 rfl rfl dX5_node_20 ?_
    obtain ⟨hc21, h⟩ := zck_e h
    refine zr_ald9 C (zt55 hZ k_h0).1 (zt55 hZ k_h0).2 hc21 dX5_node_21 ?_
    obtain ⟨r22, h23, h⟩ := zb_e h
    refine zr_callVi (n := 0) (As := []) C (c_X3_firstFreeNode l D cy hZ (G (F h0 5) p0.toNatClampNeg) (zt9 hZ (zt55 hZ k_h0).1 (z_ix (zt55 hZ k_h0).2 hc21)) I A h23) wd_478 wd_479 wd_480 wd_6 wd_481 (by decide +kernel) ⟨(Nat.le_of_ble_eq_true rfl), (Nat.le_of_ble_eq_true rfl)⟩ rfl rfl ⟨Nat.le_of_ble_eq_true rfl, Nat.le_of_ble_eq_true rfl⟩ (zt9 hZ (zt55 hZ k_h0).1 (z_ix (zt55 hZ k_h0).2 hc21)) (by decide) rfl rfl rfl (Nat.le_of_ble_eq_true rfl) dX5_node_22 ?_
    refine zr_istore (lv' := [(4, .int r22), (0, .ref h0), (1, .int p0), (2, .int p1), (3, .int p2)]) C (by decide) rfl dX5_node_25 ?_
    refine zr_iload C 0 rfl dX5_node_27 ?_
    refine zr_iconst (v := (-1)) C (by decide) dX5_node_29 ?_
    refine zr_icmp_ne (tgt := 43) C (by decide) dX5_node_30 (fun hc25 => ?_) (fun hc25 => ?_)
    · have h := zif_f hc25 h
      refine zr_aload_n C 1 rfl rfl dX5_node_43 ?_
      refine zr_get (ci := 5) (k := 5) (v := .ref (F h0 5)) C k_h0 (by decide) rfl zinX5 (by decide) wd_163 rfl dX5_node_44 ?_
      refine zr_iload_n C 2 rfl rfl dX5_node_47 ?_
      obtain ⟨hc26, h⟩ := zck_e h
      refine zr_ald9 C (zt55 hZ k_h0).1 (zt55 hZ k_h0).2 hc26 dX5_node_48 ?_
      refine zr_iload C 0 rfl dX5_node_49 ?_
      refine zr_iload_n C 3 rfl rfl dX5_node_51 ?_
      refine zr_iload_n C 4 rfl rfl dX5_node_52 ?_
      obtain ⟨I27, A28, h29, h⟩ := zb2_e h
      refine zr_callVv (n := 3) (As := [.int r22, .int p1, .int p2]) C (c_X3_grow l D cy hZ (G (F h0 5) p0.toNatClampNeg) r22 p1 p2 (zt9 hZ (zt55 hZ k_h0).1 (z_ix (zt55 hZ k_h0).2 hc26)) I A h29) wd_483 wd_484 wd_485 wd_6 wd_486 (by decide +kernel) ⟨(Nat.le_of_ble_eq_true rfl), (Nat.le_of_ble_eq_true rfl)⟩ rfl rfl ⟨Nat.le_of_ble_eq_true rfl, Nat.le_of_ble_eq_true rfl⟩ (zt9 hZ (zt55 hZ k_h0).1 (z_ix (zt55 hZ k_h0).2 hc26)) (by decide) rfl rfl rfl (Nat.le_of_ble_eq_true rfl) dX5_node_53 ?_
      refine zr_aload_n C 1 rfl rfl dX5_node_56 ?_
      obtain ⟨r31, I32, A33, h34, h⟩ := zb3_e h
      refine zr_callVi (n := 0) (As := []) C (c_X5_settle l D cy hZ h0 k_h0 I27 A28 h34) wd_302 wd_304 wp_6 wd_1 wd_305 (by decide +kernel) ⟨(Nat.le_of_ble_eq_true rfl), (Nat.le_of_ble_eq_true rfl)⟩ rfl rfl ⟨Nat.le_of_ble_eq_true rfl, Nat.le_of_ble_eq_true rfl⟩ k_h0 (by decide) rfl rfl rfl (Nat.le_of_ble_eq_true rfl) dX5_node_57 ?_
      refine zr_pop C rfl dX5_node_60 ?_
      refine zr_iload C 0 rfl dX5_node_61 ?_
      cases zso h
      exact zr_iret C hr dX5_node_63
    · have h := zif_t hc25 h
      exact zno h

