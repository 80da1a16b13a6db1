def f_X5_replace (F G : Nat → Nat → Nat) (h0 : Nat) (p0 : Int32) (p1 : Int32) (p2 : Int32) (I A : zH) : Option (Int32 × zH × zH) :=
  zb (f_X5_needNode F G h0 p0 p1 I A) fun _ =>
  if p2 = (-1) then (
    zck (¬ (p0 < 0 ∨ 5 ≤ p0.toNatClampNeg)) <|
    zck (¬ (p1 < 0 ∨ 10 ≤ p1.toNatClampNeg)) <|
    zck (¬ (p1 < 0 ∨ 10 ≤ p1.toNatClampNeg)) <|
    zlet (up2 A (F (G (F h0 5) p0.toNatClampNeg) 2) p1.toNatClampNeg p2) fun A7 =>
    zb3 (f_X5_settle F G h0 I A7) fun r8 I9 A10 =>
    some (A (F (G (F h0 5) p0.toNatClampNeg) 2) p1.toNatClampNeg, I9, A10)
  ) else (
    zb (f_X5_needPiece F G h0 p2 I A) fun _ =>
    zck (¬ (p0 < 0 ∨ 5 ≤ p0.toNatClampNeg)) <|
    zck (¬ (p1 < 0 ∨ 10 ≤ p1.toNatClampNeg)) <|
    zck (¬ (p1 < 0 ∨ 10 ≤ p1.toNatClampNeg)) <|
    zlet (up2 A (F (G (F h0 5) p0.toNatClampNeg) 2) p1.toNatClampNeg p2) fun A18 =>
    zb3 (f_X5_settle F G h0 I A18) fun r19 I20 A21 =>
    some (A (F (G (F h0 5) p0.toNatClampNeg) 2) p1.toNatClampNeg, I20, A21)
  )
set_option maxHeartbeats 4000000 in
set_option maxRecDepth 100000 in
theorem c_X5_replace (l : Launch) (D : va_G) (cy : Nat → ClassId) {L : List Nat} {K N : Nat → Nat} {F G : Nat → Nat → Nat} (hZ : ZL L K N F G) (h0 : Nat) (p0 : Int32) (p1 : Int32) (p2 : Int32) (k_h0 : K h0 = 5) (I A : zH) {r : Int32} {J' : zH} {B' : zH} (h : f_X5_replace F G h0 p0 p1 p2 I A = some (r, J', B')) : ZMi l yX5_replace cX5_replace 6 (some .int) { frames := 6, cells := 0, slots := 0, locals := 138 } D cy L K N F G [.ref h0, .int p0, .int p1, .int p2] I A r J' B' := by
  refine ZMi.of (nL := 6) hZ rfl rfl (by decide) (Nat.le_of_ble_eq_true rfl) (fun p e s m args below meth c C hr => ?_)
  unfold f_X5_replace at h
  refine zr_lv (lv' := [(0, .ref h0), (1, .int p0), (2, .int p1), (3, .int p2)]) C [0, 1, 2, 3] rfl ?_
  refine zr_aload_n C 0 rfl rfl dX5_replace_0 ?_
  refine zr_iload_n C 1 rfl rfl dX5_replace_1 ?_
  refine zr_iload_n C 2 rfl rfl dX5_replace_2 ?_
  obtain ⟨_, h1, h⟩ := zb_e h
  refine zr_callVv (n := 2) (As := [.int p0, .int p1]) C (c_X5_needNode l D cy hZ h0 p0 p1 k_h0 I A h1) wd_464 wd_466 wp_16 wd_1 wd_467 (by decide +kernel) ⟨(Nat.le_of_ble_eq_true rfl), (Nat.le_of_ble_eq_true rfl)⟩ rfl rfl ⟨Nat.le_of_ble_eq_true rfl, Nat.le_of_ble_eq_true rfl⟩ k_h0 (by decide) rfl rfl rfl (Nat.le_of_ble_eq_true rfl) dX5_replace_3 ?_
  refine zr_iload_n C 3 rfl rfl dX5_replace_6 ?_
  refine zr_iconst (v := (-1)) C (by decide) dX5_replace_7 ?_
  refine zr_icmp_eq (tgt := 16) C (by decide) dX5_replace_8 (fun hc3 => ?_) (fun hc3 => ?_)
  · have h := zif_t hc3 h
    refine zr_aload_n C 0 rfl rfl dX5_replace_16 ?_
    refine zr_get (ci := 5) (k := 5) (v := .ref (F h0 5)) C k_h0 (by decide) rfl zinX5 (by decide) wd_163 rfl dX5_replace_17 ?_
    refine zr_iload_n C 1 rfl rfl dX5_replace_20 ?_
    obtain ⟨hc4, h⟩ := zck_e h
    refine zr_ald9 C (zt55 hZ k_h0).1 (zt55 hZ k_h0).2 hc4 dX5_replace_21 ?_
    refine zr_get (ci := 3) (k := 2) (v := .ref (F (G (F h0 5) p0.toNatClampNeg) 2)) C (zt9 hZ (zt55 hZ k_h0).1 (z_ix (zt55 hZ k_h0).2 hc4)) (by decide) rfl zinX3 (by decide) wd_131 rfl dX5_replace_22 ?_
    refine zr_astore (lv' := [(4, .ref (F (G (F h0 5) p0.toNatClampNeg) 2)), (0, .ref h0), (1, .int p0), (2, .int p1), (3, .int p2)]) C (by decide) rfl dX5_replace_25 ?_
    refine zr_aload C 0 rfl dX5_replace_27 ?_
    refine zr_iload_n C 3 rfl rfl dX5_replace_29 ?_
    obtain ⟨hc5, h⟩ := zck_e h
    refine zr_iald C (zt3 hZ (zt9 hZ (zt55 hZ k_h0).1 (z_ix (zt55 hZ k_h0).2 hc4)) 2 (by decide)).1 (zt3 hZ (zt9 hZ (zt55 hZ k_h0).1 (z_ix (zt55 hZ k_h0).2 hc4)) 2 (by decide)).2 hc5 dX5_replace_30 ?_
    refine zr_istore (lv' := [(5, .int (A (F (G (F h0 5) p0.toNatClampNeg) 2) p1.toNatClampNeg)), (4, .ref (F (G (F h0 5) p0.toNatClampNeg) 2)), (0, .ref h0), (1, .int p0), (2, .int p1), (3, .int p2)]) C (by decide) rfl dX5_replace_31 ?_
    refine zr_aload C 1 rfl dX5_replace_33 ?_
    refine zr_iload_n C 4 rfl rfl dX5_replace_35 ?_
    refine zr_iload_n C 5 rfl rfl dX5_replace_36 ?_
    obtain ⟨hc6, h⟩ := zck_e h
    refine zr_iast C (zt3 hZ (zt9 hZ (zt55 hZ k_h0).1 (z_ix (zt55 hZ k_h0).2 hc4)) 2 (by decide)).1 (zt3 hZ (zt9 hZ (zt55 hZ k_h0).1 (z_ix (zt55 hZ k_h0).2 hc4)) 2 (by decide)).2 hc6 dX5_replace_37 ?_
    obtain ⟨A7, eA7, h⟩ := zlet_e h
    rw [← eA7]
    refine zr_aload_n C 2 rfl rfl dX5_replace_38 ?_
    obtain ⟨r8, I9, A10, h11, h⟩ := zb3_e h
    refine zr_callVi (n := 0) (As := []) C (c_X5_settle l D cy hZ h0 k_h0 I A7 h11) wd_302 wd_304 wp_6 wd_1 wd_305 (by decide +kernel) ⟨(Nat.le_of_ble_eq_true rfl), (Nat.le_of_ble_eq_true rfl)⟩ rfl rfl ⟨Nat.le_of_ble_eq_true rfl, Nat.le_of_ble_eq_true rfl⟩ k_h0 (by decide) rfl rfl rfl (Nat.le_of_ble_eq_true rfl) dX5_replace_39 ?_
    refine zr_pop C rfl dX5_replace_42 ?_
    refine zr_iload C 0 rfl dX5_replace_43 ?_
    cases zso h
    exact zr_iret C hr dX5_replace_45
  · have h := zif_f hc3 h
    refine zr_aload_n C 0 rfl rfl dX5_replace_11 ?_
    refine zr_iload_n C 3 rfl rfl dX5_replace_12 ?_
    obtain ⟨_, h13, h⟩ := zb_e h
    refine zr_callVv (n := 1) (As := [.int p2]) C (c_X5_needPiece l D cy hZ h0 p2 k_h0 I A h13) wd_368 wd_370 wp_10 wd_1 wd_371 (by decide +kernel) ⟨(Nat.le_of_ble_eq_true rfl), (Nat.le_of_ble_eq_true rfl)⟩ rfl rfl ⟨Nat.le_of_ble_eq_true rfl, Nat.le_of_ble_eq_true rfl⟩ k_h0 (by decide) rfl rfl rfl (Nat.le_of_ble_eq_true rfl) dX5_replace_13 ?_
    refine zr_aload_n C 0 rfl rfl dX5_replace_16 ?_
    refine zr_get (ci := 5) (k := 5) (v := .ref (F h0 5)) C k_h0 (by decide) rfl zinX5 (by decide) wd_163 rfl dX5_replace_17 ?_
    refine zr_iload_n C 1 rfl rfl dX5_replace_20 ?_
    obtain ⟨hc15, h⟩ := zck_e h
    refine zr_ald9 C (zt55 hZ k_h0).1 (zt55 hZ k_h0).2 hc15 dX5_replace_21 ?_
    refine zr_get (ci := 3) (k := 2) (v := .ref (F (G (F h0 5) p0.toNatClampNeg) 2)) C (zt9 hZ (zt55 hZ k_h0).1 (z_ix (zt55 hZ k_h0).2 hc15)) (by decide) rfl zinX3 (by decide) wd_131 rfl dX5_replace_22 ?_
    refine zr_astore (lv' := [(4, .ref (F (G (F h0 5) p0.toNatClampNeg) 2)), (0, .ref h0), (1, .int p0), (2, .int p1), (3, .int p2)]) C (by decide) rfl dX5_replace_25 ?_
    refine zr_aload C 0 rfl dX5_replace_27 ?_
    refine zr_iload_n C 3 rfl rfl dX5_replace_29 ?_
    obtain ⟨hc16, h⟩ := zck_e h
    refine zr_iald C (zt3 hZ (zt9 hZ (zt55 hZ k_h0).1 (z_ix (zt55 hZ k_h0).2 hc15)) 2 (by decide)).1 (zt3 hZ (zt9 hZ (zt55 hZ k_h0).1 (z_ix (zt55 hZ k_h0).2 hc15)) 2 (by decide)).2 hc16 dX5_replace_30 ?_
    refine zr_istore (lv' := [(5, .int (A (F (G (F h0 5) p0.toNatClampNeg) 2) p1.toNatClampNeg)), (4, .ref (F (G (F h0 5) p0.toNatClampNeg) 2)), (0, .ref h0), (1, .int p0), (2, .int p1), (3, .int p2)]) C (by decide) rfl dX5_replace_31 ?_
    refine zr_aload C 1 rfl dX5_replace_33 ?_
    refine zr_iload_n C 4 rfl rfl dX5_replace_35 ?_
    refine zr_iload_n C 5 rfl rfl dX5_replace_36 ?_
    obtain ⟨hc17, h⟩ := zck_e h
    refine zr_iast C (zt3 hZ (zt9 hZ (zt55 hZ k_h0).1 (z_ix (zt55 hZ k_h0).2 hc15)) 2 (by decide)).1 (zt3 hZ (zt9 hZ (zt55 hZ k_h0).1 (z_ix (zt55 hZ k_h0).2 hc15)) 2 (by decide)).2 hc17 dX5_replace_37 ?_
    obtain ⟨A18, eA18, h⟩ := zlet_e h
    rw [← eA18]
    refine zr_aload_n C 2 rfl rfl dX5_replace_38 ?_
    obtain ⟨r19, I20, A21, h22, h⟩ := zb3_e h
    refine zr_callVi (n := 0) (As := []) C (c_X5_settle l D cy hZ h0 k_h0 I A18 h22) wd_302 wd_304 wp_6 wd_1 wd_305 (by decide +kernel) ⟨(Nat.le_of_ble_eq_true rfl), (Nat.le_of_ble_eq_true rfl)⟩ rfl rfl ⟨Nat.le_of_ble_eq_true rfl, Nat.le_of_ble_eq_true rfl⟩ k_h0 (by decide) rfl rfl rfl (Nat.le_of_ble_eq_true rfl) dX5_replace_39 ?_
    refine zr_pop C rfl dX5_replace_42 ?_
    refine zr_iload C 0 rfl dX5_replace_43 ?_
    cases zso h
    exact zr_iret C hr dX5_replace_45

def f_X5_notice (F G : Nat → Nat → Nat) (h0 : Nat) (p0 : Int32) (p1 : Int32) (p2 : Int32) (I A : zH) : Option (Int32 × zH × zH) :=
  zb (f_X5_needProject F G h0 p0 I A) fun _ =>
  if p1 < 0 then (
    none
  ) else (
    if p1 < 5 then (
      zck (¬ (p0 < 0 ∨ 5 ≤ p0.toNatClampNeg)) <|
      zb (f_X5_hasBit F G (I (G (F h0 5) p0.toNatClampNeg) 5) p1 I A) fun r6 =>
      if p2 = 0 then (
        zlet (up2 I (G (F h0 5) p0.toNatClampNeg) 5 ((I (G (F h0 5) p0.toNatClampNeg) 5) &&& (((1 : Int32) <<< (p1 &&& 31)) ^^^ (-1)))) fun I10 =>
        zb3 (f_X5_settle F G h0 I10 A) fun r11 I12 A13 =>
        zck (r6 = 0 ∨ r6 = 1) <|
        some (r6, I12, A13)
      ) else (
        zlet (up2 I (G (F h0 5) p0.toNatClampNeg) 5 ((I (G (F h0 5) p0.toNatClampNeg) 5) ||| ((1 : Int32) <<< (p1 &&& 31)))) fun I17 =>
        zb3 (f_X5_settle F G h0 I17 A) fun r18 I19 A20 =>
        zck (r6 = 0 ∨ r6 = 1) <|
        some (r6, I19, A20)
      )
    ) else (
      none
    )
  )
set_option maxHeartbeats 4000000 in
set_option maxRecDepth 100000 in
theorem c_X5_notice (l : Launch) (D : va_G) (cy : Nat → ClassId) {L : List Nat} {K N : Nat → Nat} {F G : Nat → Nat → Nat} (hZ : ZL L K N F G) (h0 : Nat) (p0 : Int32) (p1 : Int32) (p2 : Int32) (k_h0 : K h0 = 5) (I A : zH) {r : Int32} {J' : zH} {B' : zH} (h : f_X5_notice F G h0 p0 p1 p2 I A = some (r, J', B')) : ZMi l yX5_notice cX5_notice 6 (some .boolean) { frames := 6, cells := 0, slots := 0, locals := 138 } D cy L K N F G [.ref h0, .int p0, .int p1, .int p2] I A r J' B' := by
  refine ZMi.of (nL := 6) hZ rfl rfl (by decide) (Nat.le_of_ble_eq_true rfl) (fun p e s m args below meth c C hr => ?_)
  unfold f_X5_notice at h
  refine zr_lv (lv' := [(0, .ref h0), (1, .int p0), (2, .int p1), (3, .int p2)]) C [0, 1, 2, 3] rfl ?_
  refine zr_aload_n C 0 rfl rfl dX5_notice_0 ?_
  refine zr_iload_n C 1 rfl rfl dX5_notice_1 ?_
  obtain ⟨_, h1, h⟩ := zb_e h
  refine zr_callVv (n := 1) (As := [.int p0]) C (c_X5_needProject l D cy hZ h0 p0 k_h0 I A h1) wd_468 wd_470 wp_17 wd_1 wd_471 (by decide +kernel) ⟨(Nat.le_of_ble_eq_true rfl), (Nat.le_of_ble_eq_true rfl)⟩ rfl rfl ⟨Nat.le_of_ble_eq_true rfl, Nat.le_of_ble_eq_true rfl⟩ k_h0 (by decide) rfl rfl rfl (Nat.le_of_ble_eq_true rfl) dX5_notice_2 ?_
  refine zr_iload_n C 2 rfl rfl dX5_notice_5 ?_
  refine zr_if_lt (tgt := 14) C (by decide) dX5_notice_6 (fun hc3 => ?_) (fun hc3 => ?_)
  · have h := zif_t hc3 h
    exact zno h
  · have h := zif_f hc3 h
    refine zr_iload_n C 2 rfl rfl dX5_notice_9 ?_
    refine zr_iconst (v := 5) C (by decide) dX5_notice_10 ?_
    refine zr_icmp_lt (tgt := 24) C (by decide) dX5_notice_11 (fun hc4 => ?_) (fun hc4 => ?_)
    · have h := zif_t hc4 h
      refine zr_aload_n C 0 rfl rfl dX5_notice_24 ?_
      refine zr_get (ci := 5) (k := 5) (v := .ref (F h0 5)) C k_h0 (by decide) rfl zinX5 (by decide) wd_163 rfl dX5_notice_25 ?_
      refine zr_iload_n C 1 rfl rfl dX5_notice_28 ?_
      obtain ⟨hc5, h⟩ := zck_e h
      refine zr_ald9 C (zt55 hZ k_h0).1 (zt55 hZ k_h0).2 hc5 dX5_notice_29 ?_
      refine zr_astore (lv' := [(4, .ref (G (F h0 5) p0.toNatClampNeg)), (0, .ref h0), (1, .int p0), (2, .int p1), (3, .int p2)]) C (by decide) rfl dX5_notice_30 ?_
      refine zr_aload C 0 rfl dX5_notice_32 ?_
      refine zr_get (ci := 3) (k := 5) (v := .int (I (G (F h0 5) p0.toNatClampNeg) 5)) C (zt9 hZ (zt55 hZ k_h0).1 (z_ix (zt55 hZ k_h0).2 hc5)) (by decide) rfl zinX3 (by decide) wd_136 rfl dX5_notice_34 ?_
      refine zr_iload_n C 3 rfl rfl dX5_notice_37 ?_
      obtain ⟨r6, h7, h⟩ := zb_e h
      refine zr_callSi (n := 2) (As := [.int (I (G (F h0 5) p0.toNatClampNeg) 5), .int p1]) C (c_X5_hasBit l D cy hZ (I (G (F h0 5) p0.toNatClampNeg) 5) p1 I A h7) wd_392 wd_323 wd_1 wd_324 (by decide +kernel) ⟨(Nat.le_of_ble_eq_true rfl), (Nat.le_of_ble_eq_true rfl)⟩ rfl rfl ⟨Nat.le_of_ble_eq_true rfl, Nat.le_of_ble_eq_true rfl⟩ rfl rfl (Nat.le_of_ble_eq_true rfl) dX5_notice_38 ?_
      refine zr_istore (lv' := [(5, .int r6), (4, .ref (G (F h0 5) p0.toNatClampNeg)), (0, .ref h0), (1, .int p0), (2, .int p1), (3, .int p2)]) C (by decide) rfl dX5_notice_41 ?_
      refine zr_iload_n C 5 rfl rfl dX5_notice_43 ?_
      refine zr_if_eq (tgt := 63) C (by decide) dX5_notice_44 (fun hc9 => ?_) (fun hc9 => ?_)
      · have h := zif_t hc9 h
        refine zr_aload C 1 rfl dX5_notice_63 ?_
        refine zr_dup C rfl dX5_notice_65 ?_
        refine zr_get (ci := 3) (k := 5) (v := .int (I (G (F h0 5) p0.toNatClampNeg) 5)) C (zt9 hZ (zt55 hZ k_h0).1 (z_ix (zt55 hZ k_h0).2 hc5)) (by decide) rfl zinX3 (by decide) wd_136 rfl dX5_notice_66 ?_
        refine zr_iconst (v := 1) C (by decide) dX5_notice_69 ?_
        refine zr_iload_n C 4 rfl rfl dX5_notice_70 ?_
        refine zr_ishl C dX5_notice_71 ?_
        refine zr_iconst (v := (-1)) C (by decide) dX5_notice_72 ?_
        refine zr_ixor C dX5_notice_73 ?_
        refine zr_iand C dX5_notice_74 ?_
        refine zr_put (ci := 3) (k := 5) (ty := .int) C tyX3 (zt9 hZ (zt55 hZ k_h0).1 (z_ix (zt55 hZ k_h0).2 hc5)) (by decide) rfl zinX3 tyX3_ok nmX3 (by decide) wd_136 rfl (by decide +kernel) rfl rfl (Nat.le_of_ble_eq_true rfl) (zset_3_5 F _ _ _) dX5_notice_75 ?_
        obtain ⟨I10, eI10, h⟩ := zlet_e h
        rw [← eI10]
        refine zr_aload_n C 2 rfl rfl dX5_notice_78 ?_
        obtain ⟨r11, I12, A13, h14, h⟩ := zb3_e h
        refine zr_callVi (n := 0) (As := []) C (c_X5_settle l D cy hZ h0 k_h0 I10 A h14) wd_302 wd_304 wp_6 wd_1 wd_305 (by decide +kernel) ⟨(Nat.le_of_ble_eq_true rfl), (Nat.le_of_ble_eq_true rfl)⟩ rfl rfl ⟨Nat.le_of_ble_eq_true rfl, Nat.le_of_ble_eq_true rfl⟩ k_h0 (by decide) rfl rfl rfl (Nat.le_of_ble_eq_true rfl) dX5_notice_79 ?_
        refine zr_pop C rfl dX5_notice_82 ?_
        refine zr_iload C 0 rfl dX5_notice_83 ?_
        obtain ⟨hc16, h⟩ := zck_e h
        cases zso h
        exact zr_zret C hr (z_nb hc16) dX5_notice_85
      · have h := zif_f hc9 h
        refine zr_aload C 1 rfl dX5_notice_47 ?_
        refine zr_dup C rfl dX5_notice_49 ?_
        refine zr_get (ci := 3) (k := 5) (v := .int (I (G (F h0 5) p0.toNatClampNeg) 5)) C (zt9 hZ (zt55 hZ k_h0).1 (z_ix (zt55 hZ k_h0).2 hc5)) (by decide) rfl zinX3 (by decide) wd_136 rfl dX5_notice_50 ?_
        refine zr_iconst (v := 1) C (by decide) dX5_notice_53 ?_
        refine zr_iload_n C 4 rfl rfl dX5_notice_54 ?_
        refine zr_ishl C dX5_notice_55 ?_
        refine zr_ior C dX5_notice_56 ?_
        refine zr_put (ci := 3) (k := 5) (ty := .int) C tyX3 (zt9 hZ (zt55 hZ k_h0).1 (z_ix (zt55 hZ k_h0).2 hc5)) (by decide) rfl zinX3 tyX3_ok nmX3 (by decide) wd_136 rfl (by decide +kernel) rfl rfl (Nat.le_of_ble_eq_true rfl) (zset_3_5 F _ _ _) dX5_notice_57 ?_
        obtain ⟨I17, eI17, h⟩ := zlet_e h
        rw [← eI17]
        refine zr_goto (tgt := 78) C (by decide) dX5_notice_60 ?_
        refine zr_aload_n C 2 rfl rfl dX5_notice_78 ?_
        obtain ⟨r18, I19, A20, h21, h⟩ := zb3_e h
        refine zr_callVi (n := 0) (As := []) C (c_X5_settle l D cy hZ h0 k_h0 I17 A h21) wd_302 wd_304 wp_6 wd_1 wd_305 (by decide +kernel) ⟨(Nat.le_of_ble_eq_true rfl), (Nat.le_of_ble_eq_true rfl)⟩ rfl rfl ⟨Nat.le_of_ble_eq_true rfl, Nat.le_of_ble_eq_true rfl⟩ k_h0 (by decide) rfl rfl rfl (Nat.le_of_ble_eq_true rfl) dX5_notice_79 ?_
        refine zr_pop C rfl dX5_notice_82 ?_
        refine zr_iload C 0 rfl dX5_notice_83 ?_
        obtain ⟨hc23, h⟩ := zck_e h
        cases zso h
        exact zr_zret C hr (z_nb hc23) dX5_notice_85
    · have h := zif_f hc4 h
      exact zno h

def f_X5_ship (F G : Nat → Nat → Nat) (h0 : Nat) (p0 : Int32) (I A : zH) : Option (Int32 × zH) :=
  zb (f_X5_needProject F G h0 p0 I A) fun _ =>
  zck (¬ (p0 < 0 ∨ 5 ≤ p0.toNatClampNeg)) <|
  if (I (G (F h0 5) p0.toNatClampNeg) 6) = 1 then (
    none
  ) else (
    zb (f_X3_isInOrder F G (G (F h0 5) p0.toNatClampNeg) (F h0 6) I A) fun r5 =>
    if r5 = 0 then (
      none
    ) else (
      zlet (up2 I (G (F h0 5) p0.toNatClampNeg) 6 1) fun I9 =>
      some (I9 (G (F h0 5) p0.toNatClampNeg) 7, I9)
    )
  )
set_option maxHeartbeats 4000000 in
set_option maxRecDepth 100000 in
theorem c_X5_ship (l : Launch) (D : va_G) (cy : Nat → ClassId) {L : List Nat} {K N : Nat → Nat} {F G : Nat → Nat → Nat} (hZ : ZL L K N F G) (h0 : Nat) (p0 : Int32) (k_h0 : K h0 = 5) (I A : zH) {r : Int32} {J' : zH} (h : f_X5_ship F G h0 p0 I A = some (r, J')) : ZMi l yX5_ship cX5_ship 3 (some .int) { frames := 4, cells := 0, slots := 0, locals := 95 } D cy L K N F G [.ref h0, .int p0] I A r J' A := by
  refine ZMi.of (nL := 3) hZ rfl rfl (by decide) (Nat.le_of_ble_eq_true rfl) (fun p e s m args below meth c C hr => ?_)
  unfold f_X5_ship at h
  refine zr_lv (lv' := [(0, .ref h0), (1, .int p0)]) C [0, 1] rfl ?_
  refine zr_aload_n C 0 rfl rfl dX5_ship_0 ?_
  refine zr_iload_n C 1 rfl rfl dX5_ship_1 ?_
  obtain ⟨_, h1, h⟩ := zb_e h
  refine zr_callVv (n := 1) (As := [.int p0]) C (c_X5_needProject l D cy hZ h0 p0 k_h0 I A h1) wd_468 wd_470 wp_17 wd_1 wd_471 (by decide +kernel) ⟨(Nat.le_of_ble_eq_true rfl), (Nat.le_of_ble_eq_true rfl)⟩ rfl rfl ⟨Nat.le_of_ble_eq_true rfl, Nat.le_of_ble_eq_true rfl⟩ k_h0 (by decide) rfl rfl rfl (Nat.le_of_ble_eq_true rfl) dX5_ship_2 ?_
  refine zr_aload_n C 0 rfl rfl dX5_ship_5 ?_
  refine zr_get (ci := 5) (k := 5) (v := .ref (F h0 5)) C k_h0 (by decide) rfl zinX5 (by decide) wd_163 rfl dX5_ship_6 ?_
  refine zr_iload_n C 1 rfl rfl dX5_ship_9 ?_
  obtain ⟨hc3, h⟩ := zck_e h
  refine zr_ald9 C (zt55 hZ k_h0).1 (zt55 hZ k_h0).2 hc3 dX5_ship_10 ?_
  refine zr_astore_n (lv' := [(2, .ref (G (F h0 5) p0.toNatClampNeg)), (0, .ref h0), (1, .int p0)]) C rfl (by decide) rfl dX5_ship_11 ?_
  refine zr_aload_n C 0 rfl rfl dX5_ship_12 ?_
  refine zr_get (ci := 3) (k := 6) (v := .int (I (G (F h0 5) p0.toNatClampNeg) 6)) C (zt9 hZ (zt55 hZ k_h0).1 (z_ix (zt55 hZ k_h0).2 hc3)) (by decide) rfl zinX3 (by decide) wd_138 rfl dX5_ship_13 ?_
  refine zr_iconst (v := 1) C (by decide) dX5_ship_16 ?_
  refine zr_icmp_ne (tgt := 30) C (by decide) dX5_ship_17 (fun hc4 => ?_) (fun hc4 => ?_)
  · have h := zif_f hc4 h
    refine zr_aload_n C 0 rfl rfl dX5_ship_30 ?_
    refine zr_aload_n C 1 rfl rfl dX5_ship_31 ?_
    refine zr_get (ci := 5) (k := 6) (v := .ref (F h0 6)) C k_h0 (by decide) rfl zinX5 (by decide) wd_164 rfl dX5_ship_32 ?_
    obtain ⟨r5, h6, h⟩ := zb_e h
    refine zr_callVi (n := 1) (As := [.ref (F h0 6)]) C (c_X3_isInOrder l D cy hZ (G (F h0 5) p0.toNatClampNeg) (F h0 6) (zt9 hZ (zt55 hZ k_h0).1 (z_ix (zt55 hZ k_h0).2 hc3)) (zt56 hZ k_h0) I A h6) wd_497 wd_330 wd_331 wd_6 wd_332 (by decide +kernel) ⟨(Nat.le_of_ble_eq_true rfl), (Nat.le_of_ble_eq_true rfl)⟩ rfl rfl ⟨Nat.le_of_ble_eq_true rfl, Nat.le_of_ble_eq_true rfl⟩ (zt9 hZ (zt55 hZ k_h0).1 (z_ix (zt55 hZ k_h0).2 hc3)) (by decide) rfl rfl rfl (Nat.le_of_ble_eq_true rfl) dX5_ship_35 ?_
    refine zr_if_ne (tgt := 51) C (by decide) dX5_ship_38 (fun hc8 => ?_) (fun hc8 => ?_)
    · have h := zif_f hc8 h
      refine zr_aload_n C 0 rfl rfl dX5_ship_51 ?_
      refine zr_iconst (v := 1) C (by decide) dX5_ship_52 ?_
      refine zr_put (ci := 3) (k := 6) (ty := .int) C tyX3 (zt9 hZ (zt55 hZ k_h0).1 (z_ix (zt55 hZ k_h0).2 hc3)) (by decide) rfl zinX3 tyX3_ok nmX3 (by decide) wd_138 rfl (by decide +kernel) rfl rfl (Nat.le_of_ble_eq_true rfl) (zset_3_6 F _ _ _) dX5_ship_53 ?_
      obtain ⟨I9, eI9, h⟩ := zlet_e h
      rw [← eI9]
      refine zr_aload_n C 0 rfl rfl dX5_ship_56 ?_
      refine zr_get (ci := 3) (k := 7) (v := .int (I9 (G (F h0 5) p0.toNatClampNeg) 7)) C (zt9 hZ (zt55 hZ k_h0).1 (z_ix (zt55 hZ k_h0).2 hc3)) (by decide) rfl zinX3 (by decide) wd_140 rfl dX5_ship_57 ?_
      cases zso h
      exact zr_iret C hr dX5_ship_60
    · have h := zif_t hc8 h
      exact zno h
  · have h := zif_t hc4 h
    exact zno h

def g_X5_recalledBy_29 (F G : Nat → Nat → Nat) (v0 : Nat) (v3 : Int32) (v4 : Int32) (I : zH) (A : zH) : Option ((Int32 × Int32) ⊕ (Int32 × Int32)) :=
  if (I v0 10) ≤ v4 then (
    some (.inr (v3, v4))
  ) else (
    zck (¬ (v4 < 0 ∨ 5 ≤ v4.toNatClampNeg)) <|
    zb (f_X3_isRecalledUnder F G (G (F v0 5) v4.toNatClampNeg) (F v0 7) I A) fun r3 =>
    if r3 = 0 then (
      some (.inl (v3, v4 + 1))
    ) else (
      some (.inl (v3 ||| ((1 : Int32) <<< (v4 &&& 31)), v4 + 1))
    )
  )
def f_X5_recalledBy (F G : Nat → Nat → Nat) (h0 : Nat) (p0 : Int32) (p1 : Int32) (I A : zH) : Option (Int32 × zH) :=
  zb (f_X5_needPiece F G h0 p0 I A) fun _ =>
  zb (f_X5_needLicence F G h0 p1 I A) fun _ =>
  zb (f_X5_bind F G h0 (F h0 7) (I h0 12) p0 p1 I A) fun A5 =>
  zb2 (zIt (fun x => g_X5_recalledBy_29 F G h0 x.1 x.2 I A5) 2000 (0, 0)) fun i8 i9 =>
  some (i8, A5)
set_option maxHeartbeats 4000000 in
set_option maxRecDepth 100000 in
theorem wb_X5_recalledBy_29 (l : Launch) (D : va_G) (cy : Nat → ClassId) {L : List Nat} {K N : Nat → Nat} {F G : Nat → Nat → Nat} (hZ : ZL L K N F G) {p : Program} {e : Env} {R : Room} {s : State} {m : MethodId} {args : Array Value} {below : List Frame} {meth : Method} {c : Code} {cells slots : Nat} {Q : State → Prop} (C : ZC p s m args meth c cX5_recalledBy yX5_recalledBy.cls 5 D cy L K N F G) (hRf : 5 ≤ R.frames) (hRl : 116 ≤ R.locals) (hRc : cells ≤ R.cells ∧ slots ≤ R.slots)  (v0 : Nat) (k0 : K v0 = 5) (I : zH) (A : zH) (v3 : Int32) (v4 : Int32) (o : (Int32 × Int32) ⊕ (Int32 × Int32)) (h : g_X5_recalledBy_29 F G v0 v3 v4 I A = some o)
    (hg : ∀ y : Int32 × Int32, o = .inl y → ZW p l e R s m args below meth c 5 D cy L K N F G cells slots Q I A 29 [(0, .ref v0), (3, .int y.1), (4, .int y.2)] [])
    (hx : ∀ y : Int32 × Int32, o = .inr y → ZW p l e R s m args below meth c 5 D cy L K N F G cells slots Q I A 68 [(0, .ref v0), (3, .int y.1), (4, .int y.2)] []) : ZW p l e R s m args below meth c 5 D cy L K N F G cells slots Q I A 29 [(0, .ref v0), (3, .int v3), (4, .int v4)] [] := by
  unfold g_X5_recalledBy_29 at h
  refine zr_iload C 2 rfl dX5_recalledBy_29 ?_
  refine zr_aload_n C 0 rfl rfl dX5_recalledBy_31 ?_
  refine zr_get (ci := 5) (k := 10) (v := .int (I v0 10)) C k0 (by decide) rfl zinX5 (by decide) wd_168 rfl dX5_recalledBy_32 ?_
  refine zr_icmp_ge (tgt := 68) C (by decide) dX5_recalledBy_35 (fun hc1 => ?_) (fun hc1 => ?_)
  · have h := zif_t hc1 h
    obtain rfl := zso h
    refine zr_lv (lv' := [(0, .ref v0), (3, .int v3), (4, .int v4)]) C [0, 1, 2] rfl ?_
    exact hx _ rfl
  · have h := zif_f hc1 h
    refine zr_aload_n C 0 rfl rfl dX5_recalledBy_38 ?_
    refine zr_get (ci := 5) (k := 5) (v := .ref (F v0 5)) C k0 (by decide) rfl zinX5 (by decide) wd_163 rfl dX5_recalledBy_39 ?_
    refine zr_iload C 2 rfl dX5_recalledBy_42 ?_
    obtain ⟨hc2, h⟩ := zck_e h
    refine zr_ald9 C (zt55 hZ k0).1 (zt55 hZ k0).2 hc2 dX5_recalledBy_44 ?_
    refine zr_aload_n C 0 rfl rfl dX5_recalledBy_45 ?_
    refine zr_get (ci := 5) (k := 7) (v := .ref (F v0 7)) C k0 (by decide) rfl zinX5 (by decide) wd_165 rfl dX5_recalledBy_46 ?_
    obtain ⟨r3, h4, h⟩ := zb_e h
    refine zr_callVi (n := 1) (As := [.ref (F v0 7)]) C (c_X3_isRecalledUnder l D cy hZ (G (F v0 5) v4.toNatClampNeg) (F v0 7) (zt9 hZ (zt55 hZ k0).1 (z_ix (zt55 hZ k0).2 hc2)) (zt57 hZ k0) I A h4) wd_325 wd_326 wd_327 wd_6 wd_328 (by decide +kernel) ⟨(Nat.le_trans (Nat.le_of_ble_eq_true rfl) hRf), (Nat.le_trans (Nat.le_of_ble_eq_true rfl) hRl)⟩ rfl rfl hRc (zt9 hZ (zt55 hZ k0).1 (z_ix (zt55 hZ k0).2 hc2)) (by decide) rfl rfl rfl (Nat.le_of_ble_eq_true rfl) dX5_recalledBy_49 ?_
    refine zr_if_eq (tgt := 62) C (by decide) dX5_recalledBy_52 (fun hc6 => ?_) (fun hc6 => ?_)
    · have h := zif_t hc6 h
      refine zr_iinc (v := v4 + 1) (lv' := [(4, .int (v4 + 1)), (0, .ref v0), (3, .int v3)]) C 2 rfl rfl (by decide) rfl dX5_recalledBy_62 ?_
      refine zr_goto (tgt := 29) C (by decide) dX5_recalledBy_65 ?_
      obtain rfl := zso h
      refine zr_lv (lv' := [(0, .ref v0), (3, .int v3), (4, .int (v4 + 1))]) C [1, 2, 0] rfl ?_
      exact hg _ rfl
    · have h := zif_f hc6 h
      refine zr_iload_n C 1 rfl rfl dX5_recalledBy_55 ?_
      refine zr_iconst (v := 1) C (by decide) dX5_recalledBy_56 ?_
      refine zr_iload C 2 rfl dX5_recalledBy_57 ?_
      refine zr_ishl C dX5_recalledBy_59 ?_
      refine zr_ior C dX5_recalledBy_60 ?_
      refine zr_istore_n (lv' := [(3, .int (v3 ||| ((1 : Int32) <<< (v4 &&& 31)))), (0, .ref v0), (4, .int v4)]) C rfl (by decide) rfl dX5_recalledBy_61 ?_
      refine zr_iinc (v := v4 + 1) (lv' := [(4, .int (v4 + 1)), (3, .int (v3 ||| ((1 : Int32) <<< (v4 &&& 31)))), (0, .ref v0)]) C 2 rfl rfl (by decide) rfl dX5_recalledBy_62 ?_
      refine zr_goto (tgt := 29) C (by decide) dX5_recalledBy_65 ?_
      obtain rfl := zso h
      refine zr_lv (lv' := [(0, .ref v0), (3, .int (v3 ||| ((1 : Int32) <<< (v4 &&& 31)))), (4, .int (v4 + 1))]) C [2, 1, 0] rfl ?_
      exact hg _ rfl
set_option maxHeartbeats 4000000 in
set_option maxRecDepth 100000 in
theorem w_X5_recalledBy_29 (l : Launch) (D : va_G) (cy : Nat → ClassId) {L : List Nat} {K N : Nat → Nat} {F G : Nat → Nat → Nat} (hZ : ZL L K N F G) {p : Program} {e : Env} {R : Room} {s : State} {m : MethodId} {args : Array Value} {below : List Frame} {meth : Method} {c : Code} {cells slots : Nat} {Q : State → Prop} (C : ZC p s m args meth c cX5_recalledBy yX5_recalledBy.cls 5 D cy L K N F G) (hRf : 5 ≤ R.frames) (hRl : 116 ≤ R.locals) (hRc : cells ≤ R.cells ∧ slots ≤ R.slots)  (v0 : Nat) (k0 : K v0 = 5) (I : zH) (A : zH) (n : Nat) (x : Int32 × Int32) (o : Int32 × Int32) (h : zIt (fun x => g_X5_recalledBy_29 F G v0 x.1 x.2 I A) n x = some o)
    (hx : ZW p l e R s m args below meth c 5 D cy L K N F G cells slots Q I A 68 [(0, .ref v0), (3, .int o.1), (4, .int o.2)] []) : ZW p l e R s m args below meth c 5 D cy L K N F G cells slots Q I A 29 [(0, .ref v0), (3, .int x.1), (4, .int x.2)] [] := by
  induction n generalizing x with
  | zero => cases h
  | succ n ih =>
    unfold zIt at h
    cases hb : g_X5_recalledBy_29 F G v0 x.1 x.2 I A with
    | none => rw [hb] at h; cases h
    | some q =>
      rw [hb] at h
      refine wb_X5_recalledBy_29 l D cy hZ C hRf hRl hRc v0 k0 I A x.1 x.2 q hb (fun y hy => ?_) (fun y hy => ?_)
      · subst hy; exact ih y h
      · subst hy; cases h; exact hx
set_option maxHeartbeats 4000000 in
set_option maxRecDepth 100000 in
theorem c_X5_recalledBy (l : Launch) (D : va_G) (cy : Nat → ClassId) {L : List Nat} {K N : Nat → Nat} {F G : Nat → Nat → Nat} (hZ : ZL L K N F G) (h0 : Nat) (p0 : Int32) (p1 : Int32) (k_h0 : K h0 = 5) (I A : zH) {r : Int32} {B' : zH} (h : f_X5_recalledBy F G h0 p0 p1 I A = some (r, B')) : ZMi l yX5_recalledBy cX5_recalledBy 5 (some .int) { frames := 5, cells := 0, slots := 0, locals := 116 } D cy L K N F G [.ref h0, .int p0, .int p1] I A r I B' := by
  refine ZMi.of (nL := 5) hZ rfl rfl (by decide) (Nat.le_of_ble_eq_true rfl) (fun p e s m args below meth c C hr => ?_)
  unfold f_X5_recalledBy at h
  refine zr_lv (lv' := [(0, .ref h0), (1, .int p0), (2, .int p1)]) C [0, 1, 2] rfl ?_
  refine zr_aload_n C 0 rfl rfl dX5_recalledBy_0 ?_
  refine zr_iload_n C 1 rfl rfl dX5_recalledBy_1 ?_
  obtain ⟨_, h1, h⟩ := zb_e h
  refine zr_callVv (n := 1) (As := [.int p0]) C (c_X5_needPiece l D cy hZ h0 p0 k_h0 I A h1) wd_368 wd_370 wp_10 wd_1 wd_371 (by decide +kernel) ⟨(Nat.le_of_ble_eq_true rfl), (Nat.le_of_ble_eq_true rfl)⟩ rfl rfl ⟨Nat.le_of_ble_eq_true rfl, Nat.le_of_ble_eq_true rfl⟩ k_h0 (by decide) rfl rfl rfl (Nat.le_of_ble_eq_true rfl) dX5_recalledBy_2 ?_
  refine zr_aload_n C 0 rfl rfl dX5_recalledBy_5 ?_
  refine zr_iload_n C 2 rfl rfl dX5_recalledBy_6 ?_
  obtain ⟨_, h3, h⟩ := zb_e h
  refine zr_callVv (n := 1) (As := [.int p1]) C (c_X5_needLicence l D cy hZ h0 p1 k_h0 I A h3) wd_436 wd_438 wp_14 wd_1 wd_439 (by decide +kernel) ⟨(Nat.le_of_ble_eq_true rfl), (Nat.le_of_ble_eq_true rfl)⟩ rfl rfl ⟨Nat.le_of_ble_eq_true rfl, Nat.le_of_ble_eq_true rfl⟩ k_h0 (by decide) rfl rfl rfl (Nat.le_of_ble_eq_true rfl) dX5_recalledBy_7 ?_
  refine zr_aload_n C 0 rfl rfl dX5_recalledBy_10 ?_
  refine zr_aload_n C 0 rfl rfl dX5_recalledBy_11 ?_
  refine zr_get (ci := 5) (k := 7) (v := .ref (F h0 7)) C k_h0 (by decide) rfl zinX5 (by decide) wd_165 rfl dX5_recalledBy_12 ?_
  refine zr_aload_n C 0 rfl rfl dX5_recalledBy_15 ?_
  refine zr_get (ci := 5) (k := 12) (v := .int (I h0 12)) C k_h0 (by decide) rfl zinX5 (by decide) wd_170 rfl dX5_recalledBy_16 ?_
  refine zr_iload_n C 1 rfl rfl dX5_recalledBy_19 ?_
  refine zr_iload_n C 2 rfl rfl dX5_recalledBy_20 ?_
  obtain ⟨A5, h6, h⟩ := zb_e h
  refine zr_callVv (n := 4) (As := [.ref (F h0 7), .int (I h0 12), .int p0, .int p1]) C (c_X5_bind l D cy hZ h0 (F h0 7) (I h0 12) p0 p1 k_h0 (zt57 hZ k_h0) I A h6) wd_310 wd_312 wp_8 wd_1 wd_313 (by decide +kernel) ⟨(Nat.le_of_ble_eq_true rfl), (Nat.le_of_ble_eq_true rfl)⟩ rfl rfl ⟨Nat.le_of_ble_eq_true rfl, Nat.le_of_ble_eq_true rfl⟩ k_h0 (by decide) rfl rfl rfl (Nat.le_of_ble_eq_true rfl) dX5_recalledBy_21 ?_
  refine zr_iconst (v := 0) C (by decide) dX5_recalledBy_24 ?_
  refine zr_istore_n (lv' := [(3, .int 0), (0, .ref h0), (1, .int p0), (2, .int p1)]) C rfl (by decide) rfl dX5_recalledBy_25 ?_
  refine zr_iconst (v := 0) C (by decide) dX5_recalledBy_26 ?_
  refine zr_istore (lv' := [(4, .int 0), (3, .int 0), (0, .ref h0), (1, .int p0), (2, .int p1)]) C (by decide) rfl dX5_recalledBy_27 ?_
  obtain ⟨i8, i9, h10, h⟩ := zb2_e h
  refine zr_lv (lv' := [(0, .ref h0), (3, .int 0), (4, .int 0)]) C [2, 1, 0] rfl ?_
  refine w_X5_recalledBy_29 l D cy hZ C (Nat.le_of_ble_eq_true rfl) (Nat.le_of_ble_eq_true rfl) ⟨Nat.le_of_ble_eq_true rfl, Nat.le_of_ble_eq_true rfl⟩ h0 k_h0 I A5 2000 (0, 0) (i8, i9) h10 ?_
  refine zr_iload_n C 1 rfl rfl dX5_recalledBy_68 ?_
  cases zso h
  exact zr_iret C hr dX5_recalledBy_69

def f_X5_clashesWith (F G : Nat → Nat → Nat) (h0 : Nat) (p0 : Int32) (p1 : Int32) (p2 : Int32) (I A : zH) : Option (Int32) :=
  zb (f_X5_needNode F G h0 p0 p1 I A) fun _ =>
  zb (f_X5_needPiece F G h0 p2 I A) fun _ =>
  zck (¬ (p0 < 0 ∨ 5 ≤ p0.toNatClampNeg)) <|
  zck (¬ (p1 < 0 ∨ 10 ≤ p1.toNatClampNeg)) <|
  zb (f_X3_clashesOf F G (G (F h0 5) p0.toNatClampNeg) p1 (A (F (G (F h0 5) p0.toNatClampNeg) 2) p1.toNatClampNeg) (F h0 6) I A) fun r7 =>
  zb (f_X3_clashesOf F G (G (F h0 5) p0.toNatClampNeg) p1 p2 (F h0 6) I A) fun r10 =>
  zb (f_X3_countClashes F G (G (F h0 5) p0.toNatClampNeg) (F h0 6) I A) fun r13 =>
  zb (f_J6_bitCount_0f7a4 F G r7 I A) fun r16 =>
  zb (f_J6_bitCount_0f7a4 F G r10 I A) fun r19 =>
  some ((r13 - r16) + r19)
set_option maxHeartbeats 4000000 in
set_option maxRecDepth 100000 in
theorem c_X5_clashesWith (l : Launch) (D : va_G) (cy : Nat → ClassId) {L : List Nat} {K N : Nat → Nat} {F G : Nat → Nat → Nat} (hZ : ZL L K N F G) (h0 : Nat) (p0 : Int32) (p1 : Int32) (p2 : Int32) (k_h0 : K h0 = 5) (I A : zH) {r : Int32} (h : f_X5_clashesWith F G h0 p0 p1 p2 I A = some r) : ZMi l yX5_clashesWith cX5_clashesWith 7 (some .int) { frames := 3, cells := 0, slots := 0, locals := 74 } D cy L K N F G [.ref h0, .int p0, .int p1, .int p2] I A r I A := by
  refine ZMi.of (nL := 7) hZ rfl rfl (by decide) (Nat.le_of_ble_eq_true rfl) (fun p e s m args below meth c C hr => ?_)
  unfold f_X5_clashesWith at h
  refine zr_lv (lv' := [(0, .ref h0), (1, .int p0), (2, .int p1), (3, .int p2)]) C [0, 1, 2, 3] rfl ?_
  refine zr_aload_n C 0 rfl rfl dX5_clashesWith_0 ?_
  refine zr_iload_n C 1 rfl rfl dX5_clashesWith_1 ?_
  refine zr_iload_n C 2 rfl rfl dX5_clashesWith_2 ?_
  obtain ⟨_, h1, h⟩ := zb_e h
  refine zr_callVv (n := 2) (As := [.int p0, .int p1]) C (c_X5_needNode l D cy hZ h0 p0 p1 k_h0 I A h1) wd_464 wd_466 wp_16 wd_1 wd_467 (by decide +kernel) ⟨(Nat.le_of_ble_eq_true rfl), (Nat.le_of_ble_eq_true rfl)⟩ rfl rfl ⟨Nat.le_of_ble_eq_true rfl, Nat.le_of_ble_eq_true rfl⟩ k_h0 (by decide) rfl rfl rfl (Nat.le_of_ble_eq_true rfl) dX5_clashesWith_3 ?_
  refine zr_aload_n C 0 rfl rfl dX5_clashesWith_6 ?_
  refine zr_iload_n C 3 rfl rfl dX5_clashesWith_7 ?_
  obtain ⟨_, h3, h⟩ := zb_e h
  refine zr_callVv (n := 1) (As := [.int p2]) C (c_X5_needPiece l D cy hZ h0 p2 k_h0 I A h3) wd_368 wd_370 wp_10 wd_1 wd_371 (by decide +kernel) ⟨(Nat.le_of_ble_eq_true rfl), (Nat.le_of_ble_eq_true rfl)⟩ rfl rfl ⟨Nat.le_of_ble_eq_true rfl, Nat.le_of_ble_eq_true rfl⟩ k_h0 (by decide) rfl rfl rfl (Nat.le_of_ble_eq_true rfl) dX5_clashesWith_8 ?_
  refine zr_aload_n C 0 rfl rfl dX5_clashesWith_11 ?_
  refine zr_get (ci := 5) (k := 5) (v := .ref (F h0 5)) C k_h0 (by decide) rfl zinX5 (by decide) wd_163 rfl dX5_clashesWith_12 ?_
  refine zr_iload_n C 1 rfl rfl dX5_clashesWith_15 ?_
  obtain ⟨hc5, h⟩ := zck_e h
  refine zr_ald9 C (zt55 hZ k_h0).1 (zt55 hZ k_h0).2 hc5 dX5_clashesWith_16 ?_
  refine zr_astore (lv' := [(4, .ref (G (F h0 5) p0.toNatClampNeg)), (0, .ref h0), (1, .int p0), (2, .int p1), (3, .int p2)]) C (by decide) rfl dX5_clashesWith_17 ?_
  refine zr_aload C 0 rfl dX5_clashesWith_19 ?_
  refine zr_iload_n C 3 rfl rfl dX5_clashesWith_21 ?_
  refine zr_aload C 0 rfl dX5_clashesWith_22 ?_
  refine zr_get (ci := 3) (k := 2) (v := .ref (F (G (F h0 5) p0.toNatClampNeg) 2)) C (zt9 hZ (zt55 hZ k_h0).1 (z_ix (zt55 hZ k_h0).2 hc5)) (by decide) rfl zinX3 (by decide) wd_131 rfl dX5_clashesWith_24 ?_
  refine zr_iload_n C 3 rfl rfl dX5_clashesWith_27 ?_
  obtain ⟨hc6, h⟩ := zck_e h
  refine zr_iald C (zt3 hZ (zt9 hZ (zt55 hZ k_h0).1 (z_ix (zt55 hZ k_h0).2 hc5)) 2 (by decide)).1 (zt3 hZ (zt9 hZ (zt55 hZ k_h0).1 (z_ix (zt55 hZ k_h0).2 hc5)) 2 (by decide)).2 hc6 dX5_clashesWith_28 ?_
  refine zr_aload_n C 1 rfl rfl dX5_clashesWith_29 ?_
  refine zr_get (ci := 5) (k := 6) (v := .ref (F h0 6)) C k_h0 (by decide) rfl zinX5 (by decide) wd_164 rfl dX5_clashesWith_30 ?_
  obtain ⟨r7, h8, h⟩ := zb_e h
  refine zr_callVi (n := 3) (As := [.int p1, .int (A (F (G (F h0 5) p0.toNatClampNeg) 2) p1.toNatClampNeg), .ref (F h0 6)]) C (c_X3_clashesOf l D cy hZ (G (F h0 5) p0.toNatClampNeg) p1 (A (F (G (F h0 5) p0.toNatClampNeg) 2) p1.toNatClampNeg) (F h0 6) (zt9 hZ (zt55 hZ k_h0).1 (z_ix (zt55 hZ k_h0).2 hc5)) (zt56 hZ k_h0) I A h8) wd_632 wd_347 wd_348 wd_6 wd_349 (by decide +kernel) ⟨(Nat.le_of_ble_eq_true rfl), (Nat.le_of_ble_eq_true rfl)⟩ rfl rfl ⟨Nat.le_of_ble_eq_true rfl, Nat.le_of_ble_eq_true rfl⟩ (zt9 hZ (zt55 hZ k_h0).1 (z_ix (zt55 hZ k_h0).2 hc5)) (by decide) rfl rfl rfl (Nat.le_of_ble_eq_true rfl) dX5_clashesWith_33 ?_
  refine zr_istore (lv' := [(5, .int r7), (4, .ref (G (F h0 5) p0.toNatClampNeg)), (0, .ref h0), (1, .int p0), (2, .int p1), (3, .int p2)]) C (by decide) rfl dX5_clashesWith_36 ?_
  refine zr_aload C 1 rfl dX5_clashesWith_38 ?_
  refine zr_iload_n C 4 rfl rfl dX5_clashesWith_40 ?_
  refine zr_iload_n C 5 rfl rfl dX5_clashesWith_41 ?_
  refine zr_aload_n C 2 rfl rfl dX5_clashesWith_42 ?_
  refine zr_get (ci := 5) (k := 6) (v := .ref (F h0 6)) C k_h0 (by decide) rfl zinX5 (by decide) wd_164 rfl dX5_clashesWith_43 ?_
  obtain ⟨r10, h11, h⟩ := zb_e h
  refine zr_callVi (n := 3) (As := [.int p1, .int p2, .ref (F h0 6)]) C (c_X3_clashesOf l D cy hZ (G (F h0 5) p0.toNatClampNeg) p1 p2 (F h0 6) (zt9 hZ (zt55 hZ k_h0).1 (z_ix (zt55 hZ k_h0).2 hc5)) (zt56 hZ k_h0) I A h11) wd_632 wd_347 wd_348 wd_6 wd_349 (by decide +kernel) ⟨(Nat.le_of_ble_eq_true rfl), (Nat.le_of_ble_eq_true rfl)⟩ rfl rfl ⟨Nat.le_of_ble_eq_true rfl, Nat.le_of_ble_eq_true rfl⟩ (zt9 hZ (zt55 hZ k_h0).1 (z_ix (zt55 hZ k_h0).2 hc5)) (by decide) rfl rfl rfl (Nat.le_of_ble_eq_true rfl) dX5_clashesWith_46 ?_
  refine zr_istore (lv' := [(6, .int r10), (5, .int r7), (4, .ref (G (F h0 5) p0.toNatClampNeg)), (0, .ref h0), (1, .int p0), (2, .int p1), (3, .int p2)]) C (by decide) rfl dX5_clashesWith_49 ?_
  refine zr_aload C 2 rfl dX5_clashesWith_51 ?_
  refine zr_aload_n C 3 rfl rfl dX5_clashesWith_53 ?_
  refine zr_get (ci := 5) (k := 6) (v := .ref (F h0 6)) C k_h0 (by decide) rfl zinX5 (by decide) wd_164 rfl dX5_clashesWith_54 ?_
  obtain ⟨r13, h14, h⟩ := zb_e h
  refine zr_callVi (n := 1) (As := [.ref (F h0 6)]) C (c_X3_countClashes l D cy hZ (G (F h0 5) p0.toNatClampNeg) (F h0 6) (zt9 hZ (zt55 hZ k_h0).1 (z_ix (zt55 hZ k_h0).2 hc5)) (zt56 hZ k_h0) I A h14) wd_504 wd_343 wd_344 wd_6 wd_345 (by decide +kernel) ⟨(Nat.le_of_ble_eq_true rfl), (Nat.le_of_ble_eq_true rfl)⟩ rfl rfl ⟨Nat.le_of_ble_eq_true rfl, Nat.le_of_ble_eq_true rfl⟩ (zt9 hZ (zt55 hZ k_h0).1 (z_ix (zt55 hZ k_h0).2 hc5)) (by decide) rfl rfl rfl (Nat.le_of_ble_eq_true rfl) dX5_clashesWith_57 ?_
  refine zr_iload C 1 rfl dX5_clashesWith_60 ?_
  obtain ⟨r16, h17, h⟩ := zb_e h
  refine zr_callSi (n := 1) (As := [.int r7]) C (c_J6_bitCount_0f7a4 l D cy hZ r7 I A h17) wd_503 wd_359 wd_12 wd_360 (by decide +kernel) ⟨(Nat.le_of_ble_eq_true rfl), (Nat.le_of_ble_eq_true rfl)⟩ rfl rfl ⟨Nat.le_of_ble_eq_true rfl, Nat.le_of_ble_eq_true rfl⟩ rfl rfl (Nat.le_of_ble_eq_true rfl) dX5_clashesWith_62 ?_
  refine zr_isub C dX5_clashesWith_65 ?_
  refine zr_iload C 0 rfl dX5_clashesWith_66 ?_
  obtain ⟨r19, h20, h⟩ := zb_e h
  refine zr_callSi (n := 1) (As := [.int r10]) C (c_J6_bitCount_0f7a4 l D cy hZ r10 I A h20) wd_503 wd_359 wd_12 wd_360 (by decide +kernel) ⟨(Nat.le_of_ble_eq_true rfl), (Nat.le_of_ble_eq_true rfl)⟩ rfl rfl ⟨Nat.le_of_ble_eq_true rfl, Nat.le_of_ble_eq_true rfl⟩ rfl rfl (Nat.le_of_ble_eq_true rfl) dX5_clashesWith_68 ?_
  refine zr_iadd C dX5_clashesWith_71 ?_
  obtain rfl := zso h
  exact zr_iret C hr dX5_clashesWith_72

