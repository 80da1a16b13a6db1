set_option maxHeartbeats 8000000 in
set_option maxRecDepth 200000 in
theorem k_X4_init (l : Launch) (D : va_G) (cy : Nat → ClassId) (h0 : Nat) : ZMk l yX4_init cX4_init 1 { frames := 1, cells := 2, slots := 21, locals := 12 } 2 21 D cy [.ref h0] [zco 4 h0 [.null, .null, .int 0, .int 0]] (fun u => [zco 4 h0 [.ref (u 0), .ref (u 1), .int 0, .int 0], zci cy 12 (u 0), zci cy 9 (u 1)]) := by
  refine ZMk.of (nL := 1) rfl rfl (by decide) rfl (Nat.le_of_ble_eq_true rfl) (fun p e s m args below meth c A C hr hnm => ?_)
  refine zx_lv (lv' := [(0, .ref h0)]) C [0] rfl ?_
  refine zx_aload_n C 0 rfl rfl dX4_init_0 ?_
  refine zx_obj C wobj_X4 wobjI wobjC (Nat.le_of_ble_eq_true rfl) (Nat.le_of_ble_eq_true rfl) dX4_init_1 ?_
  refine zx_aload_n C 0 rfl rfl dX4_init_4 ?_
  refine zx_bipush (v := 12) C (by decide) dX4_init_5 ?_
  refine zx_newa C 12 wd_44 (by decide) (by decide) (by decide) (Nat.le_of_ble_eq_true rfl) (Nat.le_of_ble_eq_true rfl) dX4_init_7 (fun q0 => ?_)
  refine zx_widen C (k := 1) (n := 12) (Nat.le_of_ble_eq_true rfl) (Nat.le_of_ble_eq_true rfl) ?_
  refine zx_ws C (w1 := [zco 4 h0 [.null, .null, .int 0, .int 0], zci cy 12 q0]) rfl ?_
  refine zx_putF C (q0 := 0) (ci := 4) (k := 0) (ty := .array .int) (w1 := [zco 4 h0 [.ref q0, .null, .int 0, .int 0], zci cy 12 q0]) tyX4 rfl zinX4 tyX4_ok nmX4 (by decide) wd_29 hnm rfl rfl (by decide +kernel) rfl rfl (Nat.le_of_ble_eq_true rfl) rfl rfl dX4_init_9 ?_
  refine zx_aload_n C 0 rfl rfl dX4_init_12 ?_
  refine zx_bipush (v := 9) C (by decide) dX4_init_13 ?_
  refine zx_newa C 9 wd_44 (by decide) (by decide) (by decide) (Nat.le_of_ble_eq_true rfl) (Nat.le_of_ble_eq_true rfl) dX4_init_15 (fun q1 => ?_)
  refine zx_widen C (k := 2) (n := 21) (Nat.le_of_ble_eq_true rfl) (Nat.le_of_ble_eq_true rfl) ?_
  refine zx_ws C (w1 := [zco 4 h0 [.ref q0, .null, .int 0, .int 0], zci cy 12 q0, zci cy 9 q1]) rfl ?_
  refine zx_putF C (q0 := 0) (ci := 4) (k := 1) (ty := .array .int) (w1 := [zco 4 h0 [.ref q0, .ref q1, .int 0, .int 0], zci cy 12 q0, zci cy 9 q1]) tyX4 rfl zinX4 tyX4_ok nmX4 (by decide) wd_30 hnm rfl rfl (by decide +kernel) rfl rfl (Nat.le_of_ble_eq_true rfl) rfl rfl dX4_init_17 ?_
  refine zx_aload_n C 0 rfl rfl dX4_init_20 ?_
  refine zx_iconst (v := 0) C (by decide) dX4_init_21 ?_
  refine zx_put C (q0 := 0) (ci := 4) (k := 2) (ty := .int) (w1 := [zco 4 h0 [.ref q0, .ref q1, .int 0, .int 0], zci cy 12 q0, zci cy 9 q1]) tyX4 rfl zinX4 tyX4_ok nmX4 (by decide) wd_31 rfl (by decide +kernel) rfl rfl (Nat.le_of_ble_eq_true rfl) rfl rfl dX4_init_22 ?_
  refine zx_aload_n C 0 rfl rfl dX4_init_25 ?_
  refine zx_iconst (v := 0) C (by decide) dX4_init_26 ?_
  refine zx_put C (q0 := 0) (ci := 4) (k := 3) (ty := .int) (w1 := [zco 4 h0 [.ref q0, .ref q1, .int 0, .int 0], zci cy 12 q0, zci cy 9 q1]) tyX4 rfl zinX4 tyX4_ok nmX4 (by decide) wd_33 rfl (by decide +kernel) rfl rfl (Nat.le_of_ble_eq_true rfl) rfl rfl dX4_init_27 ?_
  exact zx_vret C (fun i => ([q0, q1] : List Nat).getD i 0) rfl hr dX4_init_30
set_option maxHeartbeats 8000000 in
set_option maxRecDepth 200000 in
theorem k_X0_init (l : Launch) (D : va_G) (cy : Nat → ClassId) (h0 : Nat) : ZMk l yX0_init cX0_init 1 { frames := 1, cells := 4, slots := 64, locals := 12 } 4 64 D cy [.ref h0] [zco 0 h0 [.null, .null, .null, .null]] (fun u => [zco 0 h0 [.ref (u 0), .ref (u 1), .ref (u 2), .ref (u 3)], zci cy 16 (u 0), zci cy 16 (u 1), zci cy 16 (u 2), zci cy 16 (u 3)]) := by
  refine ZMk.of (nL := 1) rfl rfl (by decide) rfl (Nat.le_of_ble_eq_true rfl) (fun p e s m args below meth c A C hr hnm => ?_)
  refine zx_lv (lv' := [(0, .ref h0)]) C [0] rfl ?_
  refine zx_aload_n C 0 rfl rfl dX0_init_0 ?_
  refine zx_obj C wobj_X0 wobjI wobjC (Nat.le_of_ble_eq_true rfl) (Nat.le_of_ble_eq_true rfl) dX0_init_1 ?_
  refine zx_aload_n C 0 rfl rfl dX0_init_4 ?_
  refine zx_bipush (v := 16) C (by decide) dX0_init_5 ?_
  refine zx_newa C 16 wd_44 (by decide) (by decide) (by decide) (Nat.le_of_ble_eq_true rfl) (Nat.le_of_ble_eq_true rfl) dX0_init_7 (fun q0 => ?_)
  refine zx_widen C (k := 1) (n := 16) (Nat.le_of_ble_eq_true rfl) (Nat.le_of_ble_eq_true rfl) ?_
  refine zx_ws C (w1 := [zco 0 h0 [.null, .null, .null, .null], zci cy 16 q0]) rfl ?_
  refine zx_putF C (q0 := 0) (ci := 0) (k := 0) (ty := .array .int) (w1 := [zco 0 h0 [.ref q0, .null, .null, .null], zci cy 16 q0]) tyX0 rfl zinX0 tyX0_ok nmX0 (by decide) wd_59 hnm rfl rfl (by decide +kernel) rfl rfl (Nat.le_of_ble_eq_true rfl) rfl rfl dX0_init_9 ?_
  refine zx_aload_n C 0 rfl rfl dX0_init_12 ?_
  refine zx_bipush (v := 16) C (by decide) dX0_init_13 ?_
  refine zx_newa C 16 wd_44 (by decide) (by decide) (by decide) (Nat.le_of_ble_eq_true rfl) (Nat.le_of_ble_eq_true rfl) dX0_init_15 (fun q1 => ?_)
  refine zx_widen C (k := 2) (n := 32) (Nat.le_of_ble_eq_true rfl) (Nat.le_of_ble_eq_true rfl) ?_
  refine zx_ws C (w1 := [zco 0 h0 [.ref q0, .null, .null, .null], zci cy 16 q0, zci cy 16 q1]) rfl ?_
  refine zx_putF C (q0 := 0) (ci := 0) (k := 1) (ty := .array .int) (w1 := [zco 0 h0 [.ref q0, .ref q1, .null, .null], zci cy 16 q0, zci cy 16 q1]) tyX0 rfl zinX0 tyX0_ok nmX0 (by decide) wd_60 hnm rfl rfl (by decide +kernel) rfl rfl (Nat.le_of_ble_eq_true rfl) rfl rfl dX0_init_17 ?_
  refine zx_aload_n C 0 rfl rfl dX0_init_20 ?_
  refine zx_bipush (v := 16) C (by decide) dX0_init_21 ?_
  refine zx_newa C 16 wd_44 (by decide) (by decide) (by decide) (Nat.le_of_ble_eq_true rfl) (Nat.le_of_ble_eq_true rfl) dX0_init_23 (fun q2 => ?_)
  refine zx_widen C (k := 3) (n := 48) (Nat.le_of_ble_eq_true rfl) (Nat.le_of_ble_eq_true rfl) ?_
  refine zx_ws C (w1 := [zco 0 h0 [.ref q0, .ref q1, .null, .null], zci cy 16 q0, zci cy 16 q1, zci cy 16 q2]) rfl ?_
  refine zx_putF C (q0 := 0) (ci := 0) (k := 2) (ty := .array .int) (w1 := [zco 0 h0 [.ref q0, .ref q1, .ref q2, .null], zci cy 16 q0, zci cy 16 q1, zci cy 16 q2]) tyX0 rfl zinX0 tyX0_ok nmX0 (by decide) wd_61 hnm rfl rfl (by decide +kernel) rfl rfl (Nat.le_of_ble_eq_true rfl) rfl rfl dX0_init_25 ?_
  refine zx_aload_n C 0 rfl rfl dX0_init_28 ?_
  refine zx_bipush (v := 16) C (by decide) dX0_init_29 ?_
  refine zx_newa C 16 wd_44 (by decide) (by decide) (by decide) (Nat.le_of_ble_eq_true rfl) (Nat.le_of_ble_eq_true rfl) dX0_init_31 (fun q3 => ?_)
  refine zx_widen C (k := 4) (n := 64) (Nat.le_of_ble_eq_true rfl) (Nat.le_of_ble_eq_true rfl) ?_
  refine zx_ws C (w1 := [zco 0 h0 [.ref q0, .ref q1, .ref q2, .null], zci cy 16 q0, zci cy 16 q1, zci cy 16 q2, zci cy 16 q3]) rfl ?_
  refine zx_putF C (q0 := 0) (ci := 0) (k := 3) (ty := .array .int) (w1 := [zco 0 h0 [.ref q0, .ref q1, .ref q2, .ref q3], zci cy 16 q0, zci cy 16 q1, zci cy 16 q2, zci cy 16 q3]) tyX0 rfl zinX0 tyX0_ok nmX0 (by decide) wd_62 hnm rfl rfl (by decide +kernel) rfl rfl (Nat.le_of_ble_eq_true rfl) rfl rfl dX0_init_33 ?_
  exact zx_vret C (fun i => ([q0, q1, q2, q3] : List Nat).getD i 0) rfl hr dX0_init_36
set_option maxHeartbeats 8000000 in
set_option maxRecDepth 200000 in
theorem k_X2_init (l : Launch) (D : va_G) (cy : Nat → ClassId) (h0 : Nat) : ZMk l yX2_init cX2_init 1 { frames := 2, cells := 3, slots := 25, locals := 32 } 3 25 D cy [.ref h0] [zco 2 h0 [.null, .int 0, .int 0]] (fun u => [zco 2 h0 [.ref (u 0), .int (-1), .int 0], zco 4 (u 0) [.ref (u 1), .ref (u 2), .int 0, .int 0], zci cy 12 (u 1), zci cy 9 (u 2)]) := by
  refine ZMk.of (nL := 1) rfl rfl (by decide) rfl (Nat.le_of_ble_eq_true rfl) (fun p e s m args below meth c A C hr hnm => ?_)
  refine zx_lv (lv' := [(0, .ref h0)]) C [0] rfl ?_
  refine zx_aload_n C 0 rfl rfl dX2_init_0 ?_
  refine zx_obj C wobj_X2 wobjI wobjC (Nat.le_of_ble_eq_true rfl) (Nat.le_of_ble_eq_true rfl) dX2_init_1 ?_
  refine zx_aload_n C 0 rfl rfl dX2_init_4 ?_
  refine zx_new C [.null, .null, .int 0, .int 0] tyX4 (ci := 4) rfl zinX4 tyX4_ok wd_77 wd_24 wd_2 (zdfX4) (Nat.le_of_ble_eq_true rfl) (Nat.le_of_ble_eq_true rfl) dX2_init_5 (fun q0 => ?_)
  refine zx_widen C (k := 1) (n := 4) (Nat.le_of_ble_eq_true rfl) (Nat.le_of_ble_eq_true rfl) ?_
  refine zx_ws C (w1 := [zco 2 h0 [.null, .int 0, .int 0], zco 4 q0 [.null, .null, .int 0, .int 0]]) rfl ?_
  refine zx_dup C rfl dX2_init_8 ?_
  refine zx_callN C (k_X4_init l D cy q0) C.cb.2.2.2.1 wd_26 wd_2 wd_27 rfl (by decide +kernel) ⟨(Nat.le_of_ble_eq_true rfl), (Nat.le_of_ble_eq_true rfl)⟩ rfl rfl ⟨(Nat.le_of_ble_eq_true rfl), (Nat.le_of_ble_eq_true rfl)⟩ (wr := [zco 2 h0 [.null, .int 0, .int 0]]) [1] [0] rfl rfl rfl rfl rfl (by decide) (Nat.le_of_ble_eq_true rfl) dX2_init_9 (fun u1 => ?_)
  refine zx_widen C (k := 3) (n := 25) (Nat.le_of_ble_eq_true rfl) (Nat.le_of_ble_eq_true rfl) ?_
  refine zx_ws C (w1 := [zco 2 h0 [.null, .int 0, .int 0], zco 4 q0 [.ref (u1 0), .ref (u1 1), .int 0, .int 0], zci cy 12 (u1 0), zci cy 9 (u1 1)]) rfl ?_
  refine zx_putF C (q0 := 0) (ci := 2) (k := 0) (ty := .object "SnippetBank$Row") (w1 := [zco 2 h0 [.ref q0, .int 0, .int 0], zco 4 q0 [.ref (u1 0), .ref (u1 1), .int 0, .int 0], zci cy 12 (u1 0), zci cy 9 (u1 1)]) tyX2 rfl zinX2 tyX2_ok nmX2 (by decide) wd_79 hnm rfl rfl (by decide +kernel) rfl rfl (Nat.le_of_ble_eq_true rfl) rfl rfl dX2_init_12 ?_
  refine zx_aload_n C 0 rfl rfl dX2_init_15 ?_
  refine zx_iconst (v := (-1)) C (by decide) dX2_init_16 ?_
  refine zx_put C (q0 := 0) (ci := 2) (k := 1) (ty := .int) (w1 := [zco 2 h0 [.ref q0, .int (-1), .int 0], zco 4 q0 [.ref (u1 0), .ref (u1 1), .int 0, .int 0], zci cy 12 (u1 0), zci cy 9 (u1 1)]) tyX2 rfl zinX2 tyX2_ok nmX2 (by decide) wd_81 rfl (by decide +kernel) rfl rfl (Nat.le_of_ble_eq_true rfl) rfl rfl dX2_init_17 ?_
  refine zx_aload_n C 0 rfl rfl dX2_init_20 ?_
  refine zx_iconst (v := 0) C (by decide) dX2_init_21 ?_
  refine zx_put C (q0 := 0) (ci := 2) (k := 2) (ty := .int) (w1 := [zco 2 h0 [.ref q0, .int (-1), .int 0], zco 4 q0 [.ref (u1 0), .ref (u1 1), .int 0, .int 0], zci cy 12 (u1 0), zci cy 9 (u1 1)]) tyX2 rfl zinX2 tyX2_ok nmX2 (by decide) wd_83 rfl (by decide +kernel) rfl rfl (Nat.le_of_ble_eq_true rfl) rfl rfl dX2_init_22 ?_
  exact zx_vret C (fun i => ([q0, u1 0, u1 1] : List Nat).getD i 0) rfl hr dX2_init_25
set_option maxHeartbeats 8000000 in
set_option maxRecDepth 200000 in
theorem k_X1_init (l : Launch) (D : va_G) (cy : Nat → ClassId) (h0 : Nat) : ZMk l yX1_init cX1_init 1 { frames := 1, cells := 0, slots := 0, locals := 12 } 0 0 D cy [.ref h0] [zco 1 h0 [.int 0, .int 0, .int 0, .int 0, .int 0]] (fun u => [zco 1 h0 [.int 0, .int 0, .int 0, .int 0, .int 0]]) := by
  refine ZMk.of (nL := 1) rfl rfl (by decide) rfl (Nat.le_of_ble_eq_true rfl) (fun p e s m args below meth c A C hr hnm => ?_)
  refine zx_lv (lv' := [(0, .ref h0)]) C [0] rfl ?_
  refine zx_aload_n C 0 rfl rfl dX1_init_0 ?_
  refine zx_obj C wobj_X1 wobjI wobjC (Nat.le_of_ble_eq_true rfl) (Nat.le_of_ble_eq_true rfl) dX1_init_1 ?_
  refine zx_aload_n C 0 rfl rfl dX1_init_4 ?_
  refine zx_iconst (v := 0) C (by decide) dX1_init_5 ?_
  refine zx_put C (q0 := 0) (ci := 1) (k := 0) (ty := .int) (w1 := [zco 1 h0 [.int 0, .int 0, .int 0, .int 0, .int 0]]) tyX1 rfl zinX1 tyX1_ok nmX1 (by decide) wd_97 rfl (by decide +kernel) rfl rfl (Nat.le_of_ble_eq_true rfl) rfl rfl dX1_init_6 ?_
  refine zx_aload_n C 0 rfl rfl dX1_init_9 ?_
  refine zx_iconst (v := 0) C (by decide) dX1_init_10 ?_
  refine zx_put C (q0 := 0) (ci := 1) (k := 1) (ty := .int) (w1 := [zco 1 h0 [.int 0, .int 0, .int 0, .int 0, .int 0]]) tyX1 rfl zinX1 tyX1_ok nmX1 (by decide) wd_100 rfl (by decide +kernel) rfl rfl (Nat.le_of_ble_eq_true rfl) rfl rfl dX1_init_11 ?_
  refine zx_aload_n C 0 rfl rfl dX1_init_14 ?_
  refine zx_iconst (v := 0) C (by decide) dX1_init_15 ?_
  refine zx_put C (q0 := 0) (ci := 1) (k := 2) (ty := .boolean) (w1 := [zco 1 h0 [.int 0, .int 0, .int 0, .int 0, .int 0]]) tyX1 rfl zinX1 tyX1_ok nmX1 (by decide) wd_102 rfl (by decide +kernel) rfl rfl (Nat.le_of_ble_eq_true rfl) rfl rfl dX1_init_16 ?_
  refine zx_aload_n C 0 rfl rfl dX1_init_19 ?_
  refine zx_iconst (v := 0) C (by decide) dX1_init_20 ?_
  refine zx_put C (q0 := 0) (ci := 1) (k := 3) (ty := .int) (w1 := [zco 1 h0 [.int 0, .int 0, .int 0, .int 0, .int 0]]) tyX1 rfl zinX1 tyX1_ok nmX1 (by decide) wd_105 rfl (by decide +kernel) rfl rfl (Nat.le_of_ble_eq_true rfl) rfl rfl dX1_init_21 ?_
  refine zx_aload_n C 0 rfl rfl dX1_init_24 ?_
  refine zx_iconst (v := 0) C (by decide) dX1_init_25 ?_
  refine zx_put C (q0 := 0) (ci := 1) (k := 4) (ty := .int) (w1 := [zco 1 h0 [.int 0, .int 0, .int 0, .int 0, .int 0]]) tyX1 rfl zinX1 tyX1_ok nmX1 (by decide) wd_107 rfl (by decide +kernel) rfl rfl (Nat.le_of_ble_eq_true rfl) rfl rfl dX1_init_26 ?_
  exact zx_vret C (fun i => ([] : List Nat).getD i 0) rfl hr dX1_init_29
set_option maxHeartbeats 8000000 in
set_option maxRecDepth 200000 in
theorem k_X3_init (l : Launch) (D : va_G) (cy : Nat → ClassId) (h0 : Nat) : ZMk l yX3_init cX3_init 1 { frames := 1, cells := 4, slots := 40, locals := 12 } 4 40 D cy [.ref h0] [zco 3 h0 [.null, .null, .null, .null, .int 0, .int 0, .int 0, .int 0]] (fun u => [zco 3 h0 [.ref (u 0), .ref (u 1), .ref (u 2), .ref (u 3), .int 1, .int 0, .int 0, .int 0], zcf cy 10 (u 0) (upd (fun _ => 0) 0 (-1)), zci cy 10 (u 1), zcf cy 10 (u 2) (upd (fun _ => 0) 0 (-1)), zci cy 10 (u 3)]) := by
  refine ZMk.of (nL := 1) rfl rfl (by decide) rfl (Nat.le_of_ble_eq_true rfl) (fun p e s m args below meth c A C hr hnm => ?_)
  refine zx_lv (lv' := [(0, .ref h0)]) C [0] rfl ?_
  refine zx_aload_n C 0 rfl rfl dX3_init_0 ?_
  refine zx_obj C wobj_X3 wobjI wobjC (Nat.le_of_ble_eq_true rfl) (Nat.le_of_ble_eq_true rfl) dX3_init_1 ?_
  refine zx_aload_n C 0 rfl rfl dX3_init_4 ?_
  refine zx_bipush (v := 10) C (by decide) dX3_init_5 ?_
  refine zx_newa C 10 wd_44 (by decide) (by decide) (by decide) (Nat.le_of_ble_eq_true rfl) (Nat.le_of_ble_eq_true rfl) dX3_init_7 (fun q0 => ?_)
  refine zx_widen C (k := 1) (n := 10) (Nat.le_of_ble_eq_true rfl) (Nat.le_of_ble_eq_true rfl) ?_
  refine zx_ws C (w1 := [zco 3 h0 [.null, .null, .null, .null, .int 0, .int 0, .int 0, .int 0], zci cy 10 q0]) rfl ?_
  refine zx_putF C (q0 := 0) (ci := 3) (k := 0) (ty := .array .int) (w1 := [zco 3 h0 [.ref q0, .null, .null, .null, .int 0, .int 0, .int 0, .int 0], zci cy 10 q0]) tyX3 rfl zinX3 tyX3_ok nmX3 (by decide) wd_126 hnm rfl rfl (by decide +kernel) rfl rfl (Nat.le_of_ble_eq_true rfl) rfl rfl dX3_init_9 ?_
  refine zx_aload_n C 0 rfl rfl dX3_init_12 ?_
  refine zx_bipush (v := 10) C (by decide) dX3_init_13 ?_
  refine zx_newa C 10 wd_44 (by decide) (by decide) (by decide) (Nat.le_of_ble_eq_true rfl) (Nat.le_of_ble_eq_true rfl) dX3_init_15 (fun q1 => ?_)
  refine zx_widen C (k := 2) (n := 20) (Nat.le_of_ble_eq_true rfl) (Nat.le_of_ble_eq_true rfl) ?_
  refine zx_ws C (w1 := [zco 3 h0 [.ref q0, .null, .null, .null, .int 0, .int 0, .int 0, .int 0], zci cy 10 q0, zci cy 10 q1]) rfl ?_
  refine zx_putF C (q0 := 0) (ci := 3) (k := 1) (ty := .array .int) (w1 := [zco 3 h0 [.ref q0, .ref q1, .null, .null, .int 0, .int 0, .int 0, .int 0], zci cy 10 q0, zci cy 10 q1]) tyX3 rfl zinX3 tyX3_ok nmX3 (by decide) wd_128 hnm rfl rfl (by decide +kernel) rfl rfl (Nat.le_of_ble_eq_true rfl) rfl rfl dX3_init_17 ?_
  refine zx_aload_n C 0 rfl rfl dX3_init_20 ?_
  refine zx_bipush (v := 10) C (by decide) dX3_init_21 ?_
  refine zx_newa C 10 wd_44 (by decide) (by decide) (by decide) (Nat.le_of_ble_eq_true rfl) (Nat.le_of_ble_eq_true rfl) dX3_init_23 (fun q2 => ?_)
  refine zx_widen C (k := 3) (n := 30) (Nat.le_of_ble_eq_true rfl) (Nat.le_of_ble_eq_true rfl) ?_
  refine zx_ws C (w1 := [zco 3 h0 [.ref q0, .ref q1, .null, .null, .int 0, .int 0, .int 0, .int 0], zci cy 10 q0, zci cy 10 q1, zci cy 10 q2]) rfl ?_
  refine zx_putF C (q0 := 0) (ci := 3) (k := 2) (ty := .array .int) (w1 := [zco 3 h0 [.ref q0, .ref q1, .ref q2, .null, .int 0, .int 0, .int 0, .int 0], zci cy 10 q0, zci cy 10 q1, zci cy 10 q2]) tyX3 rfl zinX3 tyX3_ok nmX3 (by decide) wd_130 hnm rfl rfl (by decide +kernel) rfl rfl (Nat.le_of_ble_eq_true rfl) rfl rfl dX3_init_25 ?_
  refine zx_aload_n C 0 rfl rfl dX3_init_28 ?_
  refine zx_bipush (v := 10) C (by decide) dX3_init_29 ?_
  refine zx_newa C 10 wd_44 (by decide) (by decide) (by decide) (Nat.le_of_ble_eq_true rfl) (Nat.le_of_ble_eq_true rfl) dX3_init_31 (fun q3 => ?_)
  refine zx_widen C (k := 4) (n := 40) (Nat.le_of_ble_eq_true rfl) (Nat.le_of_ble_eq_true rfl) ?_
  refine zx_ws C (w1 := [zco 3 h0 [.ref q0, .ref q1, .ref q2, .null, .int 0, .int 0, .int 0, .int 0], zci cy 10 q0, zci cy 10 q1, zci cy 10 q2, zci cy 10 q3]) rfl ?_
  refine zx_putF C (q0 := 0) (ci := 3) (k := 3) (ty := .array .int) (w1 := [zco 3 h0 [.ref q0, .ref q1, .ref q2, .ref q3, .int 0, .int 0, .int 0, .int 0], zci cy 10 q0, zci cy 10 q1, zci cy 10 q2, zci cy 10 q3]) tyX3 rfl zinX3 tyX3_ok nmX3 (by decide) wd_132 hnm rfl rfl (by decide +kernel) rfl rfl (Nat.le_of_ble_eq_true rfl) rfl rfl dX3_init_33 ?_
  refine zx_aload_n C 0 rfl rfl dX3_init_36 ?_
  refine zx_iconst (v := 1) C (by decide) dX3_init_37 ?_
  refine zx_put C (q0 := 0) (ci := 3) (k := 4) (ty := .int) (w1 := [zco 3 h0 [.ref q0, .ref q1, .ref q2, .ref q3, .int 1, .int 0, .int 0, .int 0], zci cy 10 q0, zci cy 10 q1, zci cy 10 q2, zci cy 10 q3]) tyX3 rfl zinX3 tyX3_ok nmX3 (by decide) wd_133 rfl (by decide +kernel) rfl rfl (Nat.le_of_ble_eq_true rfl) rfl rfl dX3_init_38 ?_
  refine zx_aload_n C 0 rfl rfl dX3_init_41 ?_
  refine zx_iconst (v := 0) C (by decide) dX3_init_42 ?_
  refine zx_put C (q0 := 0) (ci := 3) (k := 5) (ty := .int) (w1 := [zco 3 h0 [.ref q0, .ref q1, .ref q2, .ref q3, .int 1, .int 0, .int 0, .int 0], zci cy 10 q0, zci cy 10 q1, zci cy 10 q2, zci cy 10 q3]) tyX3 rfl zinX3 tyX3_ok nmX3 (by decide) wd_135 rfl (by decide +kernel) rfl rfl (Nat.le_of_ble_eq_true rfl) rfl rfl dX3_init_43 ?_
  refine zx_aload_n C 0 rfl rfl dX3_init_46 ?_
  refine zx_iconst (v := 0) C (by decide) dX3_init_47 ?_
  refine zx_put C (q0 := 0) (ci := 3) (k := 6) (ty := .int) (w1 := [zco 3 h0 [.ref q0, .ref q1, .ref q2, .ref q3, .int 1, .int 0, .int 0, .int 0], zci cy 10 q0, zci cy 10 q1, zci cy 10 q2, zci cy 10 q3]) tyX3 rfl zinX3 tyX3_ok nmX3 (by decide) wd_137 rfl (by decide +kernel) rfl rfl (Nat.le_of_ble_eq_true rfl) rfl rfl dX3_init_48 ?_
  refine zx_aload_n C 0 rfl rfl dX3_init_51 ?_
  refine zx_iconst (v := 0) C (by decide) dX3_init_52 ?_
  refine zx_put C (q0 := 0) (ci := 3) (k := 7) (ty := .int) (w1 := [zco 3 h0 [.ref q0, .ref q1, .ref q2, .ref q3, .int 1, .int 0, .int 0, .int 0], zci cy 10 q0, zci cy 10 q1, zci cy 10 q2, zci cy 10 q3]) tyX3 rfl zinX3 tyX3_ok nmX3 (by decide) wd_139 rfl (by decide +kernel) rfl rfl (Nat.le_of_ble_eq_true rfl) rfl rfl dX3_init_53 ?_
  refine zx_aload_n C 0 rfl rfl dX3_init_56 ?_
  refine zx_get C (q0 := 0) (ci := 3) (k := 0) (v := .ref q0) rfl zinX3 (by decide) wd_126 rfl rfl dX3_init_57 ?_
  refine zx_iconst (v := 0) C (by decide) dX3_init_60 ?_
  refine zx_iconst (v := (-1)) C (by decide) dX3_init_61 ?_
  refine zx_iast C (q0 := 1) (w1 := [zco 3 h0 [.ref q0, .ref q1, .ref q2, .ref q3, .int 1, .int 0, .int 0, .int 0], zcf cy 10 q0 (upd (fun _ => 0) 0 (-1)), zci cy 10 q1, zci cy 10 q2, zci cy 10 q3]) rfl (by unfold vp_in; decide) rfl dX3_init_62 ?_
  refine zx_aload_n C 0 rfl rfl dX3_init_63 ?_
  refine zx_get C (q0 := 0) (ci := 3) (k := 2) (v := .ref q2) rfl zinX3 (by decide) wd_130 rfl rfl dX3_init_64 ?_
  refine zx_iconst (v := 0) C (by decide) dX3_init_67 ?_
  refine zx_iconst (v := (-1)) C (by decide) dX3_init_68 ?_
  refine zx_iast C (q0 := 3) (w1 := [zco 3 h0 [.ref q0, .ref q1, .ref q2, .ref q3, .int 1, .int 0, .int 0, .int 0], zcf cy 10 q0 (upd (fun _ => 0) 0 (-1)), zci cy 10 q1, zcf cy 10 q2 (upd (fun _ => 0) 0 (-1)), zci cy 10 q3]) rfl (by unfold vp_in; decide) rfl dX3_init_69 ?_
  exact zx_vret C (fun i => ([q0, q1, q2, q3] : List Nat).getD i 0) rfl hr dX3_init_70
