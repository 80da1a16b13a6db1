def f_X0_licencesOf (F G : Nat → Nat → Nat) (h0 : Nat) (p0 : Int32) (I A : zH) : Option (Int32) :=
  if p0 = (-1) then (
    some 0
  ) else (
    zck (¬ (p0 < 0 ∨ 16 ≤ p0.toNatClampNeg)) <|
    some (A (F h0 0) p0.toNatClampNeg)
  )
set_option maxHeartbeats 4000000 in
set_option maxRecDepth 100000 in
theorem c_X0_licencesOf (l : Launch) (D : va_G) (cy : Nat → ClassId) {L : List Nat} {K N : Nat → Nat} {F G : Nat → Nat → Nat} (hZ : ZL L K N F G) (h0 : Nat) (p0 : Int32) (k_h0 : K h0 = 0) (I A : zH) {r : Int32} (h : f_X0_licencesOf F G h0 p0 I A = some r) : ZMi l yX0_licencesOf cX0_licencesOf 2 (some .int) { frames := 0, cells := 0, slots := 0, locals := 0 } D cy L K N F G [.ref h0, .int p0] I A r I A := by
  refine ZMi.of (nL := 2) hZ rfl rfl (by decide) (Nat.le_of_ble_eq_true rfl) (fun p e s m args below meth c C hr => ?_)
  unfold f_X0_licencesOf at h
  refine zr_lv (lv' := [(0, .ref h0), (1, .int p0)]) C [0, 1] rfl ?_
  refine zr_iload_n C 1 rfl rfl dX0_licencesOf_0 ?_
  refine zr_iconst (v := (-1)) C (by decide) dX0_licencesOf_1 ?_
  refine zr_icmp_ne (tgt := 9) C (by decide) dX0_licencesOf_2 (fun hc1 => ?_) (fun hc1 => ?_)
  · have h := zif_f hc1 h
    refine zr_aload_n C 0 rfl rfl dX0_licencesOf_9 ?_
    refine zr_get (ci := 0) (k := 0) (v := .ref (F h0 0)) C k_h0 (by decide) rfl zinX0 (by decide) wd_59 rfl dX0_licencesOf_10 ?_
    refine zr_iload_n C 1 rfl rfl dX0_licencesOf_13 ?_
    obtain ⟨hc2, h⟩ := zck_e h
    refine zr_iald C (zt0 hZ k_h0 0 (by decide)).1 (zt0 hZ k_h0 0 (by decide)).2 hc2 dX0_licencesOf_14 ?_
    obtain rfl := zso h
    exact zr_iret C hr dX0_licencesOf_15
  · have h := zif_t hc1 h
    refine zr_iconst (v := 0) C (by decide) dX0_licencesOf_5 ?_
    refine zr_goto (tgt := 15) C (by decide) dX0_licencesOf_6 ?_
    obtain rfl := zso h
    exact zr_iret C hr dX0_licencesOf_15

def f_X0_isClash (F G : Nat → Nat → Nat) (h0 : Nat) (p0 : Int32) (p1 : Int32) (p2 : Int32) (I A : zH) : Option (Int32) :=
  if p0 = (-1) then (
    some 0
  ) else (
    if p1 = (-1) then (
      some 0
    ) else (
      if p2 = 0 then (
        zck (¬ (p0 < 0 ∨ 16 ≤ p0.toNatClampNeg)) <|
        zck (¬ (p1 < 0 ∨ 16 ≤ p1.toNatClampNeg)) <|
        if ((A (F h0 2) p0.toNatClampNeg) &&& (A (F h0 0) p1.toNatClampNeg)) = 0 then (
          some 0
        ) else (
          some 1
        )
      ) else (
        zck (¬ (p0 < 0 ∨ 16 ≤ p0.toNatClampNeg)) <|
        zck (¬ (p1 < 0 ∨ 16 ≤ p1.toNatClampNeg)) <|
        if ((A (F h0 3) p0.toNatClampNeg) &&& (A (F h0 0) p1.toNatClampNeg)) = 0 then (
          some 0
        ) else (
          some 1
        )
      )
    )
  )
set_option maxHeartbeats 4000000 in
set_option maxRecDepth 100000 in
theorem c_X0_isClash (l : Launch) (D : va_G) (cy : Nat → ClassId) {L : List Nat} {K N : Nat → Nat} {F G : Nat → Nat → Nat} (hZ : ZL L K N F G) (h0 : Nat) (p0 : Int32) (p1 : Int32) (p2 : Int32) (k_h0 : K h0 = 0) (I A : zH) {r : Int32} (h : f_X0_isClash F G h0 p0 p1 p2 I A = some r) : ZMi l yX0_isClash cX0_isClash 5 (some .boolean) { frames := 0, cells := 0, slots := 0, locals := 0 } D cy L K N F G [.ref h0, .int p0, .int p1, .int p2] I A r I A := by
  refine ZMi.of (nL := 5) hZ rfl rfl (by decide) (Nat.le_of_ble_eq_true rfl) (fun p e s m args below meth c C hr => ?_)
  unfold f_X0_isClash at h
  refine zr_lv (lv' := [(0, .ref h0), (1, .int p0), (2, .int p1), (3, .int p2)]) C [0, 1, 2, 3] rfl ?_
  refine zr_iload_n C 1 rfl rfl dX0_isClash_0 ?_
  refine zr_iconst (v := (-1)) C (by decide) dX0_isClash_1 ?_
  refine zr_icmp_eq (tgt := 10) C (by decide) dX0_isClash_2 (fun hc1 => ?_) (fun hc1 => ?_)
  · have h := zif_t hc1 h
    refine zr_iconst (v := 0) C (by decide) dX0_isClash_10 ?_
    obtain rfl := zso h
    exact zr_zret C hr rfl dX0_isClash_11
  · have h := zif_f hc1 h
    refine zr_iload_n C 2 rfl rfl dX0_isClash_5 ?_
    refine zr_iconst (v := (-1)) C (by decide) dX0_isClash_6 ?_
    refine zr_icmp_ne (tgt := 12) C (by decide) dX0_isClash_7 (fun hc2 => ?_) (fun hc2 => ?_)
    · have h := zif_f hc2 h
      refine zr_iload_n C 3 rfl rfl dX0_isClash_12 ?_
      refine zr_if_eq (tgt := 25) C (by decide) dX0_isClash_13 (fun hc3 => ?_) (fun hc3 => ?_)
      · have h := zif_t hc3 h
        refine zr_aload_n C 0 rfl rfl dX0_isClash_25 ?_
        refine zr_get (ci := 0) (k := 2) (v := .ref (F h0 2)) C k_h0 (by decide) rfl zinX0 (by decide) wd_61 rfl dX0_isClash_26 ?_
        refine zr_iload_n C 1 rfl rfl dX0_isClash_29 ?_
        obtain ⟨hc4, h⟩ := zck_e h
        refine zr_iald C (zt0 hZ k_h0 2 (by decide)).1 (zt0 hZ k_h0 2 (by decide)).2 hc4 dX0_isClash_30 ?_
        refine zr_istore (lv' := [(4, .int (A (F h0 2) p0.toNatClampNeg)), (0, .ref h0), (1, .int p0), (2, .int p1), (3, .int p2)]) C (by decide) rfl dX0_isClash_31 ?_
        refine zr_iload C 0 rfl dX0_isClash_33 ?_
        refine zr_aload_n C 1 rfl rfl dX0_isClash_35 ?_
        refine zr_get (ci := 0) (k := 0) (v := .ref (F h0 0)) C k_h0 (by decide) rfl zinX0 (by decide) wd_59 rfl dX0_isClash_36 ?_
        refine zr_iload_n C 3 rfl rfl dX0_isClash_39 ?_
        obtain ⟨hc5, h⟩ := zck_e h
        refine zr_iald C (zt0 hZ k_h0 0 (by decide)).1 (zt0 hZ k_h0 0 (by decide)).2 hc5 dX0_isClash_40 ?_
        refine zr_iand C dX0_isClash_41 ?_
        refine zr_if_eq (tgt := 49) C (by decide) dX0_isClash_42 (fun hc6 => ?_) (fun hc6 => ?_)
        · have h := zif_t hc6 h
          refine zr_iconst (v := 0) C (by decide) dX0_isClash_49 ?_
          obtain rfl := zso h
          exact zr_zret C hr rfl dX0_isClash_50
        · have h := zif_f hc6 h
          refine zr_iconst (v := 1) C (by decide) dX0_isClash_45 ?_
          refine zr_goto (tgt := 50) C (by decide) dX0_isClash_46 ?_
          obtain rfl := zso h
          exact zr_zret C hr rfl dX0_isClash_50
      · have h := zif_f hc3 h
        refine zr_aload_n C 0 rfl rfl dX0_isClash_16 ?_
        refine zr_get (ci := 0) (k := 3) (v := .ref (F h0 3)) C k_h0 (by decide) rfl zinX0 (by decide) wd_62 rfl dX0_isClash_17 ?_
        refine zr_iload_n C 1 rfl rfl dX0_isClash_20 ?_
        obtain ⟨hc7, h⟩ := zck_e h
        refine zr_iald C (zt0 hZ k_h0 3 (by decide)).1 (zt0 hZ k_h0 3 (by decide)).2 hc7 dX0_isClash_21 ?_
        refine zr_goto (tgt := 31) C (by decide) dX0_isClash_22 ?_
        refine zr_istore (lv' := [(4, .int (A (F h0 3) p0.toNatClampNeg)), (0, .ref h0), (1, .int p0), (2, .int p1), (3, .int p2)]) C (by decide) rfl dX0_isClash_31 ?_
        refine zr_iload C 0 rfl dX0_isClash_33 ?_
        refine zr_aload_n C 1 rfl rfl dX0_isClash_35 ?_
        refine zr_get (ci := 0) (k := 0) (v := .ref (F h0 0)) C k_h0 (by decide) rfl zinX0 (by decide) wd_59 rfl dX0_isClash_36 ?_
        refine zr_iload_n C 3 rfl rfl dX0_isClash_39 ?_
        obtain ⟨hc8, h⟩ := zck_e h
        refine zr_iald C (zt0 hZ k_h0 0 (by decide)).1 (zt0 hZ k_h0 0 (by decide)).2 hc8 dX0_isClash_40 ?_
        refine zr_iand C dX0_isClash_41 ?_
        refine zr_if_eq (tgt := 49) C (by decide) dX0_isClash_42 (fun hc9 => ?_) (fun hc9 => ?_)
        · have h := zif_t hc9 h
          refine zr_iconst (v := 0) C (by decide) dX0_isClash_49 ?_
          obtain rfl := zso h
          exact zr_zret C hr rfl dX0_isClash_50
        · have h := zif_f hc9 h
          refine zr_iconst (v := 1) C (by decide) dX0_isClash_45 ?_
          refine zr_goto (tgt := 50) C (by decide) dX0_isClash_46 ?_
          obtain rfl := zso h
          exact zr_zret C hr rfl dX0_isClash_50
    · have h := zif_t hc2 h
      refine zr_iconst (v := 0) C (by decide) dX0_isClash_10 ?_
      obtain rfl := zso h
      exact zr_zret C hr rfl dX0_isClash_11

def f_X0_dutiesOf (F G : Nat → Nat → Nat) (h0 : Nat) (p0 : Int32) (I A : zH) : Option (Int32) :=
  if p0 = (-1) then (
    some 0
  ) else (
    zck (¬ (p0 < 0 ∨ 16 ≤ p0.toNatClampNeg)) <|
    some (A (F h0 1) p0.toNatClampNeg)
  )
set_option maxHeartbeats 4000000 in
set_option maxRecDepth 100000 in
theorem c_X0_dutiesOf (l : Launch) (D : va_G) (cy : Nat → ClassId) {L : List Nat} {K N : Nat → Nat} {F G : Nat → Nat → Nat} (hZ : ZL L K N F G) (h0 : Nat) (p0 : Int32) (k_h0 : K h0 = 0) (I A : zH) {r : Int32} (h : f_X0_dutiesOf F G h0 p0 I A = some r) : ZMi l yX0_dutiesOf cX0_dutiesOf 2 (some .int) { frames := 0, cells := 0, slots := 0, locals := 0 } D cy L K N F G [.ref h0, .int p0] I A r I A := by
  refine ZMi.of (nL := 2) hZ rfl rfl (by decide) (Nat.le_of_ble_eq_true rfl) (fun p e s m args below meth c C hr => ?_)
  unfold f_X0_dutiesOf at h
  refine zr_lv (lv' := [(0, .ref h0), (1, .int p0)]) C [0, 1] rfl ?_
  refine zr_iload_n C 1 rfl rfl dX0_dutiesOf_0 ?_
  refine zr_iconst (v := (-1)) C (by decide) dX0_dutiesOf_1 ?_
  refine zr_icmp_ne (tgt := 9) C (by decide) dX0_dutiesOf_2 (fun hc1 => ?_) (fun hc1 => ?_)
  · have h := zif_f hc1 h
    refine zr_aload_n C 0 rfl rfl dX0_dutiesOf_9 ?_
    refine zr_get (ci := 0) (k := 1) (v := .ref (F h0 1)) C k_h0 (by decide) rfl zinX0 (by decide) wd_60 rfl dX0_dutiesOf_10 ?_
    refine zr_iload_n C 1 rfl rfl dX0_dutiesOf_13 ?_
    obtain ⟨hc2, h⟩ := zck_e h
    refine zr_iald C (zt0 hZ k_h0 1 (by decide)).1 (zt0 hZ k_h0 1 (by decide)).2 hc2 dX0_dutiesOf_14 ?_
    obtain rfl := zso h
    exact zr_iret C hr dX0_dutiesOf_15
  · have h := zif_t hc1 h
    refine zr_iconst (v := 0) C (by decide) dX0_dutiesOf_5 ?_
    refine zr_goto (tgt := 15) C (by decide) dX0_dutiesOf_6 ?_
    obtain rfl := zso h
    exact zr_iret C hr dX0_dutiesOf_15

def g_X0_put_6 (F G : Nat → Nat → Nat) (v0 : Nat) (v1 : Int32) (v2 : Int32) (v3 : Nat) (v4 : Int32) (v5 : Int32) (I : zH) (A : zH) : Option ((Int32 × Int32) ⊕ (Int32 × Int32)) :=
  if 6 ≤ v5 then (
    some (.inr (v4, v5))
  ) else (
    zck (¬ (v5 < 0 ∨ 6 ≤ v5.toNatClampNeg)) <|
    if (I (G v3 v5.toNatClampNeg) 2) = 0 then (
      some (.inl (v4 ||| 0, v5 + 1))
    ) else (
      some (.inl (v4 ||| ((1 : Int32) <<< (v5 &&& 31)), v5 + 1))
    )
  )
def g_X0_put_73 (F G : Nat → Nat → Nat) (v0 : Nat) (v1 : Int32) (v2 : Int32) (v3 : Nat) (v4 : Int32) (v5 : Int32) (A : zH) (I : zH) : Option ((Int32 × zH) ⊕ (Int32 × zH)) :=
  if 6 ≤ v5 then (
    some (.inr (v5, A))
  ) else (
    zb (f_X5_hasBit F G v2 v5 I A) fun r2 =>
    if r2 = 0 then (
      some (.inl (v5 + 1, A))
    ) else (
      zck (¬ (v5 < 0 ∨ 6 ≤ v5.toNatClampNeg)) <|
      zck (¬ (v1 < 0 ∨ 16 ≤ v1.toNatClampNeg)) <|
      zck (¬ (v1 < 0 ∨ 16 ≤ v1.toNatClampNeg)) <|
      zlet (up2 A (F v0 1) v1.toNatClampNeg ((A (F v0 1) v1.toNatClampNeg) ||| (I (G v3 v5.toNatClampNeg) 0))) fun A9 =>
      zck (¬ (v1 < 0 ∨ 16 ≤ v1.toNatClampNeg)) <|
      zck (¬ (v1 < 0 ∨ 16 ≤ v1.toNatClampNeg)) <|
      zlet (up2 A9 (F v0 2) v1.toNatClampNeg ((A9 (F v0 2) v1.toNatClampNeg) ||| (I (G v3 v5.toNatClampNeg) 4))) fun A12 =>
      zck (¬ (v1 < 0 ∨ 16 ≤ v1.toNatClampNeg)) <|
      if (I (G v3 v5.toNatClampNeg) 2) = 0 then (
        zck (¬ (v1 < 0 ∨ 16 ≤ v1.toNatClampNeg)) <|
        zlet (up2 A12 (F v0 3) v1.toNatClampNeg ((A12 (F v0 3) v1.toNatClampNeg) ||| ((I (G v3 v5.toNatClampNeg) 4) &&& v4))) fun A16 =>
        some (.inl (v5 + 1, A16))
      ) else (
        zck (¬ (v1 < 0 ∨ 16 ≤ v1.toNatClampNeg)) <|
        zlet (up2 A12 (F v0 3) v1.toNatClampNeg ((A12 (F v0 3) v1.toNatClampNeg) ||| (I (G v3 v5.toNatClampNeg) 4))) fun A18 =>
        some (.inl (v5 + 1, A18))
      )
    )
  )
def f_X0_put (F G : Nat → Nat → Nat) (h0 : Nat) (p0 : Int32) (p1 : Int32) (r2 : Nat) (I A : zH) : Option (zH) :=
  zb2 (zIt (fun x => g_X0_put_6 F G h0 p0 p1 r2 x.1 x.2 I A) 2000 (0, 0)) fun i1 i2 =>
  zck (¬ (p0 < 0 ∨ 16 ≤ p0.toNatClampNeg)) <|
  zlet (up2 A (F h0 0) p0.toNatClampNeg p1) fun A4 =>
  zck (¬ (p0 < 0 ∨ 16 ≤ p0.toNatClampNeg)) <|
  zlet (up2 A4 (F h0 1) p0.toNatClampNeg 0) fun A6 =>
  zck (¬ (p0 < 0 ∨ 16 ≤ p0.toNatClampNeg)) <|
  zlet (up2 A6 (F h0 2) p0.toNatClampNeg 0) fun A8 =>
  zck (¬ (p0 < 0 ∨ 16 ≤ p0.toNatClampNeg)) <|
  zlet (up2 A8 (F h0 3) p0.toNatClampNeg 0) fun A10 =>
  zb2 (zIt (fun x => g_X0_put_73 F G h0 p0 p1 r2 i1 x.1 x.2 I ) 2000 (0, A10)) fun i11 A12 =>
  some A12
set_option maxHeartbeats 4000000 in
set_option maxRecDepth 100000 in
theorem wb_X0_put_6 (l : Launch) (D : va_G) (cy : Nat → ClassId) {L : List Nat} {K N : Nat → Nat} {F G : Nat → Nat → Nat} (hZ : ZL L K N F G) {p : Program} {e : Env} {R : Room} {s : State} {m : MethodId} {args : Array Value} {below : List Frame} {meth : Method} {c : Code} {cells slots : Nat} {Q : State → Prop} (C : ZC p s m args meth c cX0_put yX0_put.cls 7 D cy L K N F G) (hRf : 0 ≤ R.frames) (hRl : 0 ≤ R.locals) (hRc : cells ≤ R.cells ∧ slots ≤ R.slots)  (v0 : Nat) (v1 : Int32) (v2 : Int32) (v3 : Nat) (k0 : K v0 = 0) (k3 : K v3 = 7) (n3 : N v3 = 6) (I : zH) (A : zH) (v4 : Int32) (v5 : Int32) (o : (Int32 × Int32) ⊕ (Int32 × Int32)) (h : g_X0_put_6 F G v0 v1 v2 v3 v4 v5 I A = some o)
    (hg : ∀ y : Int32 × Int32, o = .inl y → ZW p l e R s m args below meth c 7 D cy L K N F G cells slots Q I A 6 [(0, .ref v0), (1, .int v1), (2, .int v2), (3, .ref v3), (4, .int y.1), (5, .int y.2)] [])
    (hx : ∀ y : Int32 × Int32, o = .inr y → ZW p l e R s m args below meth c 7 D cy L K N F G cells slots Q I A 42 [(0, .ref v0), (1, .int v1), (2, .int v2), (3, .ref v3), (4, .int y.1), (5, .int y.2)] []) : ZW p l e R s m args below meth c 7 D cy L K N F G cells slots Q I A 6 [(0, .ref v0), (1, .int v1), (2, .int v2), (3, .ref v3), (4, .int v4), (5, .int v5)] [] := by
  unfold g_X0_put_6 at h
  refine zr_iload C 5 rfl dX0_put_6 ?_
  refine zr_bipush (v := 6) C (by decide) dX0_put_8 ?_
  refine zr_icmp_ge (tgt := 42) C (by decide) dX0_put_10 (fun hc1 => ?_) (fun hc1 => ?_)
  · have h := zif_t hc1 h
    obtain rfl := zso h
    refine zr_lv (lv' := [(0, .ref v0), (1, .int v1), (2, .int v2), (3, .ref v3), (4, .int v4), (5, .int v5)]) C [0, 1, 2, 3, 4, 5] rfl ?_
    exact hx _ rfl
  · have h := zif_f hc1 h
    refine zr_iload C 4 rfl dX0_put_13 ?_
    refine zr_aload_n C 3 rfl rfl dX0_put_15 ?_
    refine zr_iload C 5 rfl dX0_put_16 ?_
    obtain ⟨hc2, h⟩ := zck_e h
    refine zr_ald7 C k3 n3 hc2 dX0_put_18 ?_
    refine zr_get (ci := 1) (k := 2) (v := .int (I (G v3 v5.toNatClampNeg) 2)) C (zt7 hZ k3 (z_ix n3 hc2)) (by decide) rfl zinX1 (by decide) wd_103 rfl dX0_put_19 ?_
    refine zr_if_eq (tgt := 32) C (by decide) dX0_put_22 (fun hc3 => ?_) (fun hc3 => ?_)
    · have h := zif_t hc3 h
      refine zr_iconst (v := 0) C (by decide) dX0_put_32 ?_
      refine zr_ior C dX0_put_33 ?_
      refine zr_istore (lv' := [(4, .int (v4 ||| 0)), (0, .ref v0), (1, .int v1), (2, .int v2), (3, .ref v3), (5, .int v5)]) C (by decide) rfl dX0_put_34 ?_
      refine zr_iinc (v := v5 + 1) (lv' := [(5, .int (v5 + 1)), (4, .int (v4 ||| 0)), (0, .ref v0), (1, .int v1), (2, .int v2), (3, .ref v3)]) C 5 rfl rfl (by decide) rfl dX0_put_36 ?_
      refine zr_goto (tgt := 6) C (by decide) dX0_put_39 ?_
      obtain rfl := zso h
      refine zr_lv (lv' := [(0, .ref v0), (1, .int v1), (2, .int v2), (3, .ref v3), (4, .int (v4 ||| 0)), (5, .int (v5 + 1))]) C [2, 3, 4, 5, 1, 0] rfl ?_
      exact hg _ rfl
    · have h := zif_f hc3 h
      refine zr_iconst (v := 1) C (by decide) dX0_put_25 ?_
      refine zr_iload C 5 rfl dX0_put_26 ?_
      refine zr_ishl C dX0_put_28 ?_
      refine zr_goto (tgt := 33) C (by decide) dX0_put_29 ?_
      refine zr_ior C dX0_put_33 ?_
      refine zr_istore (lv' := [(4, .int (v4 ||| ((1 : Int32) <<< (v5 &&& 31)))), (0, .ref v0), (1, .int v1), (2, .int v2), (3, .ref v3), (5, .int v5)]) C (by decide) rfl dX0_put_34 ?_
      refine zr_iinc (v := v5 + 1) (lv' := [(5, .int (v5 + 1)), (4, .int (v4 ||| ((1 : Int32) <<< (v5 &&& 31)))), (0, .ref v0), (1, .int v1), (2, .int v2), (3, .ref v3)]) C 5 rfl rfl (by decide) rfl dX0_put_36 ?_
      refine zr_goto (tgt := 6) C (by decide) dX0_put_39 ?_
      obtain rfl := zso h
      refine zr_lv (lv' := [(0, .ref v0), (1, .int v1), (2, .int v2), (3, .ref v3), (4, .int (v4 ||| ((1 : Int32) <<< (v5 &&& 31)))), (5, .int (v5 + 1))]) C [2, 3, 4, 5, 1, 0] rfl ?_
      exact hg _ rfl
set_option maxHeartbeats 4000000 in
set_option maxRecDepth 100000 in
theorem w_X0_put_6 (l : Launch) (D : va_G) (cy : Nat → ClassId) {L : List Nat} {K N : Nat → Nat} {F G : Nat → Nat → Nat} (hZ : ZL L K N F G) {p : Program} {e : Env} {R : Room} {s : State} {m : MethodId} {args : Array Value} {below : List Frame} {meth : Method} {c : Code} {cells slots : Nat} {Q : State → Prop} (C : ZC p s m args meth c cX0_put yX0_put.cls 7 D cy L K N F G) (hRf : 0 ≤ R.frames) (hRl : 0 ≤ R.locals) (hRc : cells ≤ R.cells ∧ slots ≤ R.slots)  (v0 : Nat) (v1 : Int32) (v2 : Int32) (v3 : Nat) (k0 : K v0 = 0) (k3 : K v3 = 7) (n3 : N v3 = 6) (I : zH) (A : zH) (n : Nat) (x : Int32 × Int32) (o : Int32 × Int32) (h : zIt (fun x => g_X0_put_6 F G v0 v1 v2 v3 x.1 x.2 I A) n x = some o)
    (hx : ZW p l e R s m args below meth c 7 D cy L K N F G cells slots Q I A 42 [(0, .ref v0), (1, .int v1), (2, .int v2), (3, .ref v3), (4, .int o.1), (5, .int o.2)] []) : ZW p l e R s m args below meth c 7 D cy L K N F G cells slots Q I A 6 [(0, .ref v0), (1, .int v1), (2, .int v2), (3, .ref v3), (4, .int x.1), (5, .int x.2)] [] := by
  induction n generalizing x with
  | zero => cases h
  | succ n ih =>
    unfold zIt at h
    cases hb : g_X0_put_6 F G v0 v1 v2 v3 x.1 x.2 I A with
    | none => rw [hb] at h; cases h
    | some q =>
      rw [hb] at h
      refine wb_X0_put_6 l D cy hZ C hRf hRl hRc v0 v1 v2 v3 k0 k3 n3 I A x.1 x.2 q hb (fun y hy => ?_) (fun y hy => ?_)
      · subst hy; exact ih y h
      · subst hy; cases h; exact hx
set_option maxHeartbeats 4000000 in
set_option maxRecDepth 100000 in
theorem wb_X0_put_73 (l : Launch) (D : va_G) (cy : Nat → ClassId) {L : List Nat} {K N : Nat → Nat} {F G : Nat → Nat → Nat} (hZ : ZL L K N F G) {p : Program} {e : Env} {R : Room} {s : State} {m : MethodId} {args : Array Value} {below : List Frame} {meth : Method} {c : Code} {cells slots : Nat} {Q : State → Prop} (C : ZC p s m args meth c cX0_put yX0_put.cls 7 D cy L K N F G) (hRf : 1 ≤ R.frames) (hRl : 21 ≤ R.locals) (hRc : cells ≤ R.cells ∧ slots ≤ R.slots)  (v0 : Nat) (v1 : Int32) (v2 : Int32) (v3 : Nat) (v4 : Int32) (k0 : K v0 = 0) (k3 : K v3 = 7) (n3 : N v3 = 6) (I : zH) (v5 : Int32) (A : zH) (o : (Int32 × zH) ⊕ (Int32 × zH)) (h : g_X0_put_73 F G v0 v1 v2 v3 v4 v5 A I = some o)
    (hg : ∀ y : Int32 × zH, o = .inl y → ZW p l e R s m args below meth c 7 D cy L K N F G cells slots Q I y.2 73 [(0, .ref v0), (1, .int v1), (2, .int v2), (3, .ref v3), (4, .int v4), (5, .int y.1)] [])
    (hx : ∀ y : Int32 × zH, o = .inr y → ZW p l e R s m args below meth c 7 D cy L K N F G cells slots Q I y.2 162 [(0, .ref v0), (1, .int v1), (2, .int v2), (3, .ref v3), (4, .int v4), (5, .int y.1)] []) : ZW p l e R s m args below meth c 7 D cy L K N F G cells slots Q I A 73 [(0, .ref v0), (1, .int v1), (2, .int v2), (3, .ref v3), (4, .int v4), (5, .int v5)] [] := by
  unfold g_X0_put_73 at h
  refine zr_iload C 5 rfl dX0_put_73 ?_
  refine zr_bipush (v := 6) C (by decide) dX0_put_75 ?_
  refine zr_icmp_ge (tgt := 162) C (by decide) dX0_put_77 (fun hc1 => ?_) (fun hc1 => ?_)
  · have h := zif_t hc1 h
    obtain rfl := zso h
    refine zr_lv (lv' := [(0, .ref v0), (1, .int v1), (2, .int v2), (3, .ref v3), (4, .int v4), (5, .int v5)]) C [0, 1, 2, 3, 4, 5] rfl ?_
    exact hx _ rfl
  · have h := zif_f hc1 h
    refine zr_iload_n C 2 rfl rfl dX0_put_80 ?_
    refine zr_iload C 5 rfl dX0_put_81 ?_
    obtain ⟨r2, h3, h⟩ := zb_e h
    refine zr_callNi (n := 2) (As := [.int v2, .int v5]) C (c_X5_hasBit l D cy hZ v2 v5 I A h3) C.nb.1 wd_323 wd_1 wd_324 (by decide +kernel) ⟨(Nat.le_trans (Nat.le_of_ble_eq_true rfl) hRf), (Nat.le_trans (Nat.le_of_ble_eq_true rfl) hRl)⟩ rfl rfl hRc rfl rfl (Nat.le_of_ble_eq_true rfl) dX0_put_83 ?_
    refine zr_if_eq (tgt := 156) C (by decide) dX0_put_86 (fun hc5 => ?_) (fun hc5 => ?_)
    · have h := zif_t hc5 h
      refine zr_iinc (v := v5 + 1) (lv' := [(5, .int (v5 + 1)), (0, .ref v0), (1, .int v1), (2, .int v2), (3, .ref v3), (4, .int v4)]) C 5 rfl rfl (by decide) rfl dX0_put_156 ?_
      refine zr_goto (tgt := 73) C (by decide) dX0_put_159 ?_
      obtain rfl := zso h
      refine zr_lv (lv' := [(0, .ref v0), (1, .int v1), (2, .int v2), (3, .ref v3), (4, .int v4), (5, .int (v5 + 1))]) C [1, 2, 3, 4, 5, 0] rfl ?_
      exact hg _ rfl
    · have h := zif_f hc5 h
      refine zr_aload_n C 3 rfl rfl dX0_put_89 ?_
      refine zr_iload C 5 rfl dX0_put_90 ?_
      obtain ⟨hc6, h⟩ := zck_e h
      refine zr_ald7 C k3 n3 hc6 dX0_put_92 ?_
      refine zr_astore (lv' := [(6, .ref (G v3 v5.toNatClampNeg)), (0, .ref v0), (1, .int v1), (2, .int v2), (3, .ref v3), (4, .int v4), (5, .int v5)]) C (by decide) rfl dX0_put_93 ?_
      refine zr_aload_n C 1 rfl rfl dX0_put_95 ?_
      refine zr_get (ci := 0) (k := 1) (v := .ref (F v0 1)) C k0 (by decide) rfl zinX0 (by decide) wd_60 rfl dX0_put_96 ?_
      refine zr_iload_n C 2 rfl rfl dX0_put_99 ?_
      refine zr_dup2 C rfl rfl dX0_put_100 ?_
      obtain ⟨hc7, h⟩ := zck_e h
      refine zr_iald C (zt0 hZ k0 1 (by decide)).1 (zt0 hZ k0 1 (by decide)).2 hc7 dX0_put_101 ?_
      refine zr_aload C 0 rfl dX0_put_102 ?_
      refine zr_get (ci := 1) (k := 0) (v := .int (I (G v3 v5.toNatClampNeg) 0)) C (zt7 hZ k3 (z_ix n3 hc6)) (by decide) rfl zinX1 (by decide) wd_98 rfl dX0_put_104 ?_
      refine zr_ior C dX0_put_107 ?_
      obtain ⟨hc8, h⟩ := zck_e h
      refine zr_iast C (zt0 hZ k0 1 (by decide)).1 (zt0 hZ k0 1 (by decide)).2 hc8 dX0_put_108 ?_
      obtain ⟨A9, eA9, h⟩ := zlet_e h
      rw [← eA9]
      refine zr_aload_n C 1 rfl rfl dX0_put_109 ?_
      refine zr_get (ci := 0) (k := 2) (v := .ref (F v0 2)) C k0 (by decide) rfl zinX0 (by decide) wd_61 rfl dX0_put_110 ?_
      refine zr_iload_n C 2 rfl rfl dX0_put_113 ?_
      refine zr_dup2 C rfl rfl dX0_put_114 ?_
      obtain ⟨hc10, h⟩ := zck_e h
      refine zr_iald C (zt0 hZ k0 2 (by decide)).1 (zt0 hZ k0 2 (by decide)).2 hc10 dX0_put_115 ?_
      refine zr_aload C 0 rfl dX0_put_116 ?_
      refine zr_get (ci := 1) (k := 4) (v := .int (I (G v3 v5.toNatClampNeg) 4)) C (zt7 hZ k3 (z_ix n3 hc6)) (by decide) rfl zinX1 (by decide) wd_108 rfl dX0_put_118 ?_
      refine zr_ior C dX0_put_121 ?_
      obtain ⟨hc11, h⟩ := zck_e h
      refine zr_iast C (zt0 hZ k0 2 (by decide)).1 (zt0 hZ k0 2 (by decide)).2 hc11 dX0_put_122 ?_
      obtain ⟨A12, eA12, h⟩ := zlet_e h
      rw [← eA12]
      refine zr_aload_n C 1 rfl rfl dX0_put_123 ?_
      refine zr_get (ci := 0) (k := 3) (v := .ref (F v0 3)) C k0 (by decide) rfl zinX0 (by decide) wd_62 rfl dX0_put_124 ?_
      refine zr_iload_n C 2 rfl rfl dX0_put_127 ?_
      refine zr_dup2 C rfl rfl dX0_put_128 ?_
      obtain ⟨hc13, h⟩ := zck_e h
      refine zr_iald C (zt0 hZ k0 3 (by decide)).1 (zt0 hZ k0 3 (by decide)).2 hc13 dX0_put_129 ?_
      refine zr_aload C 0 rfl dX0_put_130 ?_
      refine zr_get (ci := 1) (k := 2) (v := .int (I (G v3 v5.toNatClampNeg) 2)) C (zt7 hZ k3 (z_ix n3 hc6)) (by decide) rfl zinX1 (by decide) wd_103 rfl dX0_put_132 ?_
      refine zr_if_eq (tgt := 146) C (by decide) dX0_put_135 (fun hc14 => ?_) (fun hc14 => ?_)
      · have h := zif_t hc14 h
        refine zr_aload C 0 rfl dX0_put_146 ?_
        refine zr_get (ci := 1) (k := 4) (v := .int (I (G v3 v5.toNatClampNeg) 4)) C (zt7 hZ k3 (z_ix n3 hc6)) (by decide) rfl zinX1 (by decide) wd_108 rfl dX0_put_148 ?_
        refine zr_iload C 5 rfl dX0_put_151 ?_
        refine zr_iand C dX0_put_153 ?_
        refine zr_ior C dX0_put_154 ?_
        obtain ⟨hc15, h⟩ := zck_e h
        refine zr_iast C (zt0 hZ k0 3 (by decide)).1 (zt0 hZ k0 3 (by decide)).2 hc15 dX0_put_155 ?_
        obtain ⟨A16, eA16, h⟩ := zlet_e h
        rw [← eA16]
        refine zr_iinc (v := v5 + 1) (lv' := [(5, .int (v5 + 1)), (6, .ref (G v3 v5.toNatClampNeg)), (0, .ref v0), (1, .int v1), (2, .int v2), (3, .ref v3), (4, .int v4)]) C 6 rfl rfl (by decide) rfl dX0_put_156 ?_
        refine zr_goto (tgt := 73) C (by decide) dX0_put_159 ?_
        obtain rfl := zso h
        refine zr_lv (lv' := [(0, .ref v0), (1, .int v1), (2, .int v2), (3, .ref v3), (4, .int v4), (5, .int (v5 + 1))]) C [2, 3, 4, 5, 6, 0] rfl ?_
        exact hg _ rfl
      · have h := zif_f hc14 h
        refine zr_aload C 0 rfl dX0_put_138 ?_
        refine zr_get (ci := 1) (k := 4) (v := .int (I (G v3 v5.toNatClampNeg) 4)) C (zt7 hZ k3 (z_ix n3 hc6)) (by decide) rfl zinX1 (by decide) wd_108 rfl dX0_put_140 ?_
        refine zr_goto (tgt := 154) C (by decide) dX0_put_143 ?_
        refine zr_ior C dX0_put_154 ?_
        obtain ⟨hc17, h⟩ := zck_e h
        refine zr_iast C (zt0 hZ k0 3 (by decide)).1 (zt0 hZ k0 3 (by decide)).2 hc17 dX0_put_155 ?_
        obtain ⟨A18, eA18, h⟩ := zlet_e h
        rw [← eA18]
        refine zr_iinc (v := v5 + 1) (lv' := [(5, .int (v5 + 1)), (6, .ref (G v3 v5.toNatClampNeg)), (0, .ref v0), (1, .int v1), (2, .int v2), (3, .ref v3), (4, .int v4)]) C 6 rfl rfl (by decide) rfl dX0_put_156 ?_
        refine zr_goto (tgt := 73) C (by decide) dX0_put_159 ?_
        obtain rfl := zso h
        refine zr_lv (lv' := [(0, .ref v0), (1, .int v1), (2, .int v2), (3, .ref v3), (4, .int v4), (5, .int (v5 + 1))]) C [2, 3, 4, 5, 6, 0] rfl ?_
        exact hg _ rfl
set_option maxHeartbeats 4000000 in
set_option maxRecDepth 100000 in
theorem w_X0_put_73 (l : Launch) (D : va_G) (cy : Nat → ClassId) {L : List Nat} {K N : Nat → Nat} {F G : Nat → Nat → Nat} (hZ : ZL L K N F G) {p : Program} {e : Env} {R : Room} {s : State} {m : MethodId} {args : Array Value} {below : List Frame} {meth : Method} {c : Code} {cells slots : Nat} {Q : State → Prop} (C : ZC p s m args meth c cX0_put yX0_put.cls 7 D cy L K N F G) (hRf : 1 ≤ R.frames) (hRl : 21 ≤ R.locals) (hRc : cells ≤ R.cells ∧ slots ≤ R.slots)  (v0 : Nat) (v1 : Int32) (v2 : Int32) (v3 : Nat) (v4 : Int32) (k0 : K v0 = 0) (k3 : K v3 = 7) (n3 : N v3 = 6) (I : zH) (n : Nat) (x : Int32 × zH) (o : Int32 × zH) (h : zIt (fun x => g_X0_put_73 F G v0 v1 v2 v3 v4 x.1 x.2 I) n x = some o)
    (hx : ZW p l e R s m args below meth c 7 D cy L K N F G cells slots Q I o.2 162 [(0, .ref v0), (1, .int v1), (2, .int v2), (3, .ref v3), (4, .int v4), (5, .int o.1)] []) : ZW p l e R s m args below meth c 7 D cy L K N F G cells slots Q I x.2 73 [(0, .ref v0), (1, .int v1), (2, .int v2), (3, .ref v3), (4, .int v4), (5, .int x.1)] [] := by
  induction n generalizing x with
  | zero => cases h
  | succ n ih =>
    unfold zIt at h
    cases hb : g_X0_put_73 F G v0 v1 v2 v3 v4 x.1 x.2 I with
    | none => rw [hb] at h; cases h
    | some q =>
      rw [hb] at h
      refine wb_X0_put_73 l D cy hZ C hRf hRl hRc v0 v1 v2 v3 v4 k0 k3 n3 I x.1 x.2 q hb (fun y hy => ?_) (fun y hy => ?_)
      · subst hy; exact ih y h
      · subst hy; cases h; exact hx
set_option maxHeartbeats 4000000 in
set_option maxRecDepth 100000 in
theorem c_X0_put (l : Launch) (D : va_G) (cy : Nat → ClassId) {L : List Nat} {K N : Nat → Nat} {F G : Nat → Nat → Nat} (hZ : ZL L K N F G) (h0 : Nat) (p0 : Int32) (p1 : Int32) (r2 : Nat) (k_h0 : K h0 = 0) (k_r2 : K r2 = 7) (n_r2 : N r2 = 6) (I A : zH) {B' : zH} (h : f_X0_put F G h0 p0 p1 r2 I A = some B') : ZMv l yX0_put cX0_put 7 none { frames := 1, cells := 0, slots := 0, locals := 21 } D cy L K N F G [.ref h0, .int p0, .int p1, .ref r2] I A I B' := by
  refine ZMv.of (nL := 7) hZ rfl rfl (by decide) (Nat.le_of_ble_eq_true rfl) (fun p e s m args below meth c C hr => ?_)
  unfold f_X0_put at h
  refine zr_lv (lv' := [(0, .ref h0), (1, .int p0), (2, .int p1), (3, .ref r2)]) C [0, 1, 2, 3] rfl ?_
  refine zr_iconst (v := 0) C (by decide) dX0_put_0 ?_
  refine zr_istore (lv' := [(4, .int 0), (0, .ref h0), (1, .int p0), (2, .int p1), (3, .ref r2)]) C (by decide) rfl dX0_put_1 ?_
  refine zr_iconst (v := 0) C (by decide) dX0_put_3 ?_
  refine zr_istore (lv' := [(5, .int 0), (4, .int 0), (0, .ref h0), (1, .int p0), (2, .int p1), (3, .ref r2)]) C (by decide) rfl dX0_put_4 ?_
  obtain ⟨i1, i2, h14, h⟩ := zb2_e h
  refine zr_lv (lv' := [(0, .ref h0), (1, .int p0), (2, .int p1), (3, .ref r2), (4, .int 0), (5, .int 0)]) C [2, 3, 4, 5, 1, 0] rfl ?_
  refine w_X0_put_6 l D cy hZ C (Nat.le_of_ble_eq_true rfl) (Nat.le_of_ble_eq_true rfl) ⟨Nat.le_of_ble_eq_true rfl, Nat.le_of_ble_eq_true rfl⟩ h0 p0 p1 r2 k_h0 k_r2 n_r2 I A 2000 (0, 0) (i1, i2) h14 ?_
  refine zr_aload_n C 0 rfl rfl dX0_put_42 ?_
  refine zr_get (ci := 0) (k := 0) (v := .ref (F h0 0)) C k_h0 (by decide) rfl zinX0 (by decide) wd_59 rfl dX0_put_43 ?_
  refine zr_iload_n C 1 rfl rfl dX0_put_46 ?_
  refine zr_iload_n C 2 rfl rfl dX0_put_47 ?_
  obtain ⟨hc3, h⟩ := zck_e h
  refine zr_iast C (zt0 hZ k_h0 0 (by decide)).1 (zt0 hZ k_h0 0 (by decide)).2 hc3 dX0_put_48 ?_
  obtain ⟨A4, eA4, h⟩ := zlet_e h
  rw [← eA4]
  refine zr_aload_n C 0 rfl rfl dX0_put_49 ?_
  refine zr_get (ci := 0) (k := 1) (v := .ref (F h0 1)) C k_h0 (by decide) rfl zinX0 (by decide) wd_60 rfl dX0_put_50 ?_
  refine zr_iload_n C 1 rfl rfl dX0_put_53 ?_
  refine zr_iconst (v := 0) C (by decide) dX0_put_54 ?_
  obtain ⟨hc5, h⟩ := zck_e h
  refine zr_iast C (zt0 hZ k_h0 1 (by decide)).1 (zt0 hZ k_h0 1 (by decide)).2 hc5 dX0_put_55 ?_
  obtain ⟨A6, eA6, h⟩ := zlet_e h
  rw [← eA6]
  refine zr_aload_n C 0 rfl rfl dX0_put_56 ?_
  refine zr_get (ci := 0) (k := 2) (v := .ref (F h0 2)) C k_h0 (by decide) rfl zinX0 (by decide) wd_61 rfl dX0_put_57 ?_
  refine zr_iload_n C 1 rfl rfl dX0_put_60 ?_
  refine zr_iconst (v := 0) C (by decide) dX0_put_61 ?_
  obtain ⟨hc7, h⟩ := zck_e h
  refine zr_iast C (zt0 hZ k_h0 2 (by decide)).1 (zt0 hZ k_h0 2 (by decide)).2 hc7 dX0_put_62 ?_
  obtain ⟨A8, eA8, h⟩ := zlet_e h
  rw [← eA8]
  refine zr_aload_n C 0 rfl rfl dX0_put_63 ?_
  refine zr_get (ci := 0) (k := 3) (v := .ref (F h0 3)) C k_h0 (by decide) rfl zinX0 (by decide) wd_62 rfl dX0_put_64 ?_
  refine zr_iload_n C 1 rfl rfl dX0_put_67 ?_
  refine zr_iconst (v := 0) C (by decide) dX0_put_68 ?_
  obtain ⟨hc9, h⟩ := zck_e h
  refine zr_iast C (zt0 hZ k_h0 3 (by decide)).1 (zt0 hZ k_h0 3 (by decide)).2 hc9 dX0_put_69 ?_
  obtain ⟨A10, eA10, h⟩ := zlet_e h
  rw [← eA10]
  refine zr_iconst (v := 0) C (by decide) dX0_put_70 ?_
  refine zr_istore (lv' := [(5, .int 0), (0, .ref h0), (1, .int p0), (2, .int p1), (3, .ref r2), (4, .int i1)]) C (by decide) rfl dX0_put_71 ?_
  obtain ⟨i11, A12, h13, h⟩ := zb2_e h
  refine zr_lv (lv' := [(0, .ref h0), (1, .int p0), (2, .int p1), (3, .ref r2), (4, .int i1), (5, .int 0)]) C [1, 2, 3, 4, 5, 0] rfl ?_
  refine w_X0_put_73 l D cy hZ C (Nat.le_of_ble_eq_true rfl) (Nat.le_of_ble_eq_true rfl) ⟨Nat.le_of_ble_eq_true rfl, Nat.le_of_ble_eq_true rfl⟩ h0 p0 p1 r2 i1 k_h0 k_r2 n_r2 I  2000 (0, A10) (i11, A12) h13 ?_
  obtain rfl := zso h
  exact zr_vret C hr dX0_put_162

def f_X1_isRivalOf (F G : Nat → Nat → Nat) (h0 : Nat) (r0 : Nat) (I A : zH) : Option (Int32) :=
  if ((I h0 0) &&& (I r0 1)) = 0 then (
    if ((I r0 0) &&& (I h0 1)) = 0 then (
      some 0
    ) else (
      some 1
    )
  ) else (
    some 1
  )
set_option maxHeartbeats 4000000 in
set_option maxRecDepth 100000 in
theorem c_X1_isRivalOf (l : Launch) (D : va_G) (cy : Nat → ClassId) {L : List Nat} {K N : Nat → Nat} {F G : Nat → Nat → Nat} (hZ : ZL L K N F G) (h0 : Nat) (r0 : Nat) (k_h0 : K h0 = 1) (k_r0 : K r0 = 1) (I A : zH) {r : Int32} (h : f_X1_isRivalOf F G h0 r0 I A = some r) : ZMi l yX1_isRivalOf cX1_isRivalOf 2 (some .boolean) { frames := 0, cells := 0, slots := 0, locals := 0 } D cy L K N F G [.ref h0, .ref r0] I A r I A := by
  refine ZMi.of (nL := 2) hZ rfl rfl (by decide) (Nat.le_of_ble_eq_true rfl) (fun p e s m args below meth c C hr => ?_)
  unfold f_X1_isRivalOf at h
  refine zr_lv (lv' := [(0, .ref h0), (1, .ref r0)]) C [0, 1] rfl ?_
  refine zr_aload_n C 0 rfl rfl dX1_isRivalOf_0 ?_
  refine zr_get (ci := 1) (k := 0) (v := .int (I h0 0)) C k_h0 (by decide) rfl zinX1 (by decide) wd_97 rfl dX1_isRivalOf_1 ?_
  refine zr_aload_n C 1 rfl rfl dX1_isRivalOf_4 ?_
  refine zr_get (ci := 1) (k := 1) (v := .int (I r0 1)) C k_r0 (by decide) rfl zinX1 (by decide) wd_100 rfl dX1_isRivalOf_5 ?_
  refine zr_iand C dX1_isRivalOf_8 ?_
  refine zr_if_ne (tgt := 24) C (by decide) dX1_isRivalOf_9 (fun hc1 => ?_) (fun hc1 => ?_)
  · have h := zif_f hc1 h
    refine zr_iconst (v := 1) C (by decide) dX1_isRivalOf_24 ?_
    refine zr_goto (tgt := 29) C (by decide) dX1_isRivalOf_25 ?_
    obtain rfl := zso h
    exact zr_zret C hr rfl dX1_isRivalOf_29
  · have h := zif_t hc1 h
    refine zr_aload_n C 1 rfl rfl dX1_isRivalOf_12 ?_
    refine zr_get (ci := 1) (k := 0) (v := .int (I r0 0)) C k_r0 (by decide) rfl zinX1 (by decide) wd_97 rfl dX1_isRivalOf_13 ?_
    refine zr_aload_n C 0 rfl rfl dX1_isRivalOf_16 ?_
    refine zr_get (ci := 1) (k := 1) (v := .int (I h0 1)) C k_h0 (by decide) rfl zinX1 (by decide) wd_100 rfl dX1_isRivalOf_17 ?_
    refine zr_iand C dX1_isRivalOf_20 ?_
    refine zr_if_eq (tgt := 28) C (by decide) dX1_isRivalOf_21 (fun hc2 => ?_) (fun hc2 => ?_)
    · have h := zif_t hc2 h
      refine zr_iconst (v := 0) C (by decide) dX1_isRivalOf_28 ?_
      obtain rfl := zso h
      exact zr_zret C hr rfl dX1_isRivalOf_29
    · have h := zif_f hc2 h
      refine zr_iconst (v := 1) C (by decide) dX1_isRivalOf_24 ?_
      refine zr_goto (tgt := 29) C (by decide) dX1_isRivalOf_25 ?_
      obtain rfl := zso h
      exact zr_zret C hr rfl dX1_isRivalOf_29

