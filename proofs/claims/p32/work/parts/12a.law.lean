def f_L_below (F G : Nat → Nat → Nat) (p0 : Int32) (p1 : Int32) (I A : zH) : Option (Int32) :=
  zck (¬ p1 = 0) <|
  some ((p0 &&& 2147483647) - (p0 &&& 2147483647) / p1 * p1)
set_option maxHeartbeats 4000000 in
set_option maxRecDepth 100000 in
theorem c_L_below (l : Launch) (D : va_G) (cy : Nat → ClassId) {L : List Nat} {K N : Nat → Nat} {F G : Nat → Nat → Nat} (hZ : ZL L K N F G) (p0 : Int32) (p1 : Int32)  (I A : zH) {r : Int32} (h : f_L_below F G p0 p1 I A = some r) : ZMi l yL_below cL_below 2 (some .int) { frames := 0, cells := 0, slots := 0, locals := 0 } D cy L K N F G [.int p0, .int p1] I A r I A := by
  refine ZMi.of (nL := 2) hZ rfl rfl (by decide) (Nat.le_of_ble_eq_true rfl) (fun p e s m args below meth c C hr => ?_)
  unfold f_L_below at h
  refine zr_lv (lv' := [(0, .int p0), (1, .int p1)]) C [0, 1] rfl ?_
  refine zr_iload_n C 0 rfl rfl dL_below_0 ?_
  refine zr_ldc (v := 2147483647) C wd_531 dL_below_1 ?_
  refine zr_iand C dL_below_3 ?_
  refine zr_iload_n C 1 rfl rfl dL_below_4 ?_
  obtain ⟨hc1, h⟩ := zck_e h
  refine zr_irem C hc1 dL_below_5 ?_
  obtain rfl := zso h
  exact zr_iret C hr dL_below_6

def f_L_cell (F G : Nat → Nat → Nat) (Ln : Nat) (xs : Nat → Int32) (p1 : Int32) (I A : zH) : Option (Int32) :=
  if (Int32.ofNat Ln) ≤ p1 then (
    some ((790386105 : Int32) * (p1 + 3))
  ) else (
    zck (¬ (p1 < 0 ∨ Ln ≤ p1.toNatClampNeg)) <|
    some (xs p1.toNatClampNeg)
  )
set_option maxHeartbeats 4000000 in
set_option maxRecDepth 100000 in
theorem c_L_cell (l : Launch) (D : va_G) (cy : Nat → ClassId) {L : List Nat} {K N : Nat → Nat} {F G : Nat → Nat → Nat} (hZ : ZL L K N F G) (Ln : Nat) (xs : Nat → Int32) (sb : Nat) (hXL : sb ∉ L) (p1 : Int32)  (I A : zH) {r : Int32} (h : f_L_cell F G Ln xs p1 I A = some r) : ZMs l yL_cell cL_cell 2 (some .int) { frames := 0, cells := 0, slots := 0, locals := 0 } D cy L K N F G [.ref sb, .int p1] sb Ln xs I A r I A := by
  refine ZMs.of (nL := 2) hZ rfl rfl (by decide) (Nat.le_of_ble_eq_true rfl) (fun p e s m args below meth c C hX hXb hr => ?_)
  unfold f_L_cell at h
  refine zr_lv (lv' := [(0, .ref sb), (1, .int p1)]) C [0, 1] rfl ?_
  refine zr_iload_n C 1 rfl rfl dL_cell_0 ?_
  refine zr_aload_n C 0 rfl rfl dL_cell_1 ?_
  refine zw_slen C hX hXb hXL dL_cell_2 ?_
  refine zr_icmp_ge (tgt := 12) C (by decide) dL_cell_3 (fun hc1 => ?_) (fun hc1 => ?_)
  · have h := zif_t hc1 h
    refine zr_ldc (v := 790386105) C wd_535 dL_cell_12 ?_
    refine zr_iload_n C 1 rfl rfl dL_cell_14 ?_
    refine zr_iconst (v := 3) C (by decide) dL_cell_15 ?_
    refine zr_iadd C dL_cell_16 ?_
    refine zr_imul C dL_cell_17 ?_
    obtain rfl := zso h
    exact zr_iret C hr dL_cell_18
  · have h := zif_f hc1 h
    refine zr_aload_n C 0 rfl rfl dL_cell_6 ?_
    refine zr_iload_n C 1 rfl rfl dL_cell_7 ?_
    obtain ⟨hc2, h⟩ := zck_e h
    refine zw_sld C hX hXb hXL hc2 dL_cell_8 ?_
    refine zr_goto (tgt := 18) C (by decide) dL_cell_9 ?_
    obtain rfl := zso h
    exact zr_iret C hr dL_cell_18

def g_L_isWritten_89 (F G : Nat → Nat → Nat) (v0 : Nat) (v2 : Int32) (v3 : Int32) (I : zH) (A : zH) : Option ((Int32 × zH × zH) ⊕ (Int32 × zH × zH)) :=
  if 6 ≤ v3 then (
    some (.inr (v3, I, A))
  ) else (
    zb (f_L_below F G (v2 >>> (v3 &&& 31)) 3 I A) fun r2 =>
    if r2 = 0 then (
      zb (f_L_below F G (v2 >>> ((v3 + 2) &&& 31)) 3 I A) fun r15 =>
      zb3 (f_X5_token F G v0 ((10 : Int32) + r15) I A) fun r18 I19 A20 =>
      if r18 = (v3 + 1) then (
        some (.inl (v3 + 1, I19, A20))
      ) else (
        none
      )
    ) else (
      zb (f_L_below F G (v2 >>> ((v3 + 1) &&& 31)) 4 I A) fun r6 =>
      zb3 (f_X5_token F G v0 r6 I A) fun r9 I10 A11 =>
      if r9 = (v3 + 1) then (
        some (.inl (v3 + 1, I10, A11))
      ) else (
        none
      )
    )
  )
def f_L_isWritten (F G : Nat → Nat → Nat) (r0 : Nat) (p1 : Int32) (p2 : Int32) (I A : zH) : Option (Int32 × zH × zH) :=
  if p1 < 0 then (
    zb3 (f_X5_cut F G r0 12 I A) fun r2 I3 A4 =>
    zb3 (zIt (fun x => g_L_isWritten_89 F G r0 p2 x.1 x.2.1 x.2.2 ) 2000 (0, I3, A4)) fun i7 I8 A9 =>
    some (1, I8, A9)
  ) else (
    zb (f_L_below F G p2 2 I A) fun r11 =>
    if r11 = 0 then (
      zb (f_L_below F G (p2 >>> (2 &&& 31)) 10 I A) fun r24 =>
      zb3 (f_X5_copy F G r0 p1 r24 I A) fun r27 I28 A29 =>
      zb (f_X5_ofPiece F G r0 p1 0 I28 A29) fun r32 =>
      if r27 = r32 then (
        zb (f_X5_scan F G r0 p1 I28 A29) fun r36 =>
        if r36 = 100 then (
          if 11 < r27 then (
            some (1, I28, A29)
          ) else (
            zb (f_L_below F G (p2 >>> (4 &&& 31)) 5 I28 A29) fun r41 =>
            zb3 (f_X5_token F G r0 ((10 : Int32) + r41) I28 A29) fun r44 I45 A46 =>
            if r44 = (r27 + 1) then (
              some (1, I45, A46)
            ) else (
              none
            )
          )
        ) else (
          none
        )
      ) else (
        none
      )
    ) else (
      zb3 (f_X5_cut F G r0 12 I A) fun r15 I16 A17 =>
      zb3 (zIt (fun x => g_L_isWritten_89 F G r0 p2 x.1 x.2.1 x.2.2 ) 2000 (0, I16, A17)) fun i20 I21 A22 =>
      some (1, I21, A22)
    )
  )
set_option maxHeartbeats 4000000 in
set_option maxRecDepth 100000 in
theorem wb_L_isWritten_89 (l : Launch) (D : va_G) (cy : Nat → ClassId) {L : List Nat} {K N : Nat → Nat} {F G : Nat → Nat → Nat} (hZ : ZL L K N F G) {p : Program} {e : Env} {R : Room} {s : State} {m : MethodId} {args : Array Value} {below : List Frame} {meth : Method} {c : Code} {cells slots : Nat} {Q : State → Prop} (C : ZC p s m args meth c cL_isWritten yL_isWritten.cls 4 D cy L K N F G) (hRf : 5 ≤ R.frames) (hRl : 111 ≤ R.locals) (hRc : cells ≤ R.cells ∧ slots ≤ R.slots)  (v0 : Nat) (v2 : Int32) (k0 : K v0 = 5) (v3 : Int32) (I : zH) (A : zH) (o : (Int32 × zH × zH) ⊕ (Int32 × zH × zH)) (h : g_L_isWritten_89 F G v0 v2 v3 I A  = some o)
    (hg : ∀ y : Int32 × zH × zH, o = .inl y → ZW p l e R s m args below meth c 4 D cy L K N F G cells slots Q y.2.1 y.2.2 89 [(0, .ref v0), (2, .int v2), (3, .int y.1)] [])
    (hx : ∀ y : Int32 × zH × zH, o = .inr y → ZW p l e R s m args below meth c 4 D cy L K N F G cells slots Q y.2.1 y.2.2 147 [(0, .ref v0), (2, .int v2), (3, .int y.1)] []) : ZW p l e R s m args below meth c 4 D cy L K N F G cells slots Q I A 89 [(0, .ref v0), (2, .int v2), (3, .int v3)] [] := by
  unfold g_L_isWritten_89 at h
  refine zr_iload_n C 2 rfl rfl dL_isWritten_89 ?_
  refine zr_bipush (v := 6) C (by decide) dL_isWritten_90 ?_
  refine zr_icmp_ge (tgt := 147) C (by decide) dL_isWritten_92 (fun hc1 => ?_) (fun hc1 => ?_)
  · have h := zif_t hc1 h
    obtain rfl := zso h
    refine zr_lv (lv' := [(0, .ref v0), (2, .int v2), (3, .int v3)]) C [0, 1, 2] rfl ?_
    exact hx _ rfl
  · have h := zif_f hc1 h
    refine zr_aload_n C 0 rfl rfl dL_isWritten_95 ?_
    refine zr_iload_n C 1 rfl rfl dL_isWritten_96 ?_
    refine zr_iload_n C 2 rfl rfl dL_isWritten_97 ?_
    refine zr_ishr C dL_isWritten_98 ?_
    refine zr_iconst (v := 3) C (by decide) dL_isWritten_99 ?_
    obtain ⟨r2, h3, h⟩ := zb_e h
    refine zr_callSi (n := 2) (As := [.int (v2 >>> (v3 &&& 31)), .int 3]) C (c_L_below l D cy hZ (v2 >>> (v3 &&& 31)) 3 I A h3) wd_528 wd_529 wd_0 wd_530 (by decide +kernel) ⟨(Nat.le_trans (Nat.le_of_ble_eq_true rfl) hRf), (Nat.le_trans (Nat.le_of_ble_eq_true rfl) hRl)⟩ rfl rfl hRc rfl rfl (Nat.le_of_ble_eq_true rfl) dL_isWritten_100 ?_
    refine zr_if_ne (tgt := 121) C (by decide) dL_isWritten_103 (fun hc5 => ?_) (fun hc5 => ?_)
    · have h := zif_f hc5 h
      refine zr_iload_n C 1 rfl rfl dL_isWritten_121 ?_
      refine zr_iload_n C 2 rfl rfl dL_isWritten_122 ?_
      refine zr_iconst (v := 1) C (by decide) dL_isWritten_123 ?_
      refine zr_iadd C dL_isWritten_124 ?_
      refine zr_ishr C dL_isWritten_125 ?_
      refine zr_iconst (v := 4) C (by decide) dL_isWritten_126 ?_
      obtain ⟨r6, h7, h⟩ := zb_e h
      refine zr_callSi (n := 2) (As := [.int (v2 >>> ((v3 + 1) &&& 31)), .int 4]) C (c_L_below l D cy hZ (v2 >>> ((v3 + 1) &&& 31)) 4 I A h7) wd_528 wd_529 wd_0 wd_530 (by decide +kernel) ⟨(Nat.le_trans (Nat.le_of_ble_eq_true rfl) hRf), (Nat.le_trans (Nat.le_of_ble_eq_true rfl) hRl)⟩ rfl rfl hRc rfl rfl (Nat.le_of_ble_eq_true rfl) dL_isWritten_127 ?_
      obtain ⟨r9, I10, A11, h12, h⟩ := zb3_e h
      refine zr_callVi (n := 1) (As := [.int r6]) C (c_X5_token l D cy hZ v0 r6 k0 I A h12) wd_548 wd_549 wd_550 wd_1 wd_551 (by decide +kernel) ⟨(Nat.le_trans (Nat.le_of_ble_eq_true rfl) hRf), (Nat.le_trans (Nat.le_of_ble_eq_true rfl) hRl)⟩ rfl rfl hRc k0 (by decide) rfl rfl rfl (Nat.le_of_ble_eq_true rfl) dL_isWritten_130 ?_
      refine zr_iload_n C 2 rfl rfl dL_isWritten_133 ?_
      refine zr_iconst (v := 1) C (by decide) dL_isWritten_134 ?_
      refine zr_iadd C dL_isWritten_135 ?_
      refine zr_icmp_eq (tgt := 141) C (by decide) dL_isWritten_136 (fun hc14 => ?_) (fun hc14 => ?_)
      · have h := zif_t hc14 h
        refine zr_iinc (v := v3 + 1) (lv' := [(3, .int (v3 + 1)), (0, .ref v0), (2, .int v2)]) C 2 rfl rfl (by decide) rfl dL_isWritten_141 ?_
        refine zr_goto (tgt := 89) C (by decide) dL_isWritten_144 ?_
        obtain rfl := zso h
        refine zr_lv (lv' := [(0, .ref v0), (2, .int v2), (3, .int (v3 + 1))]) C [1, 2, 0] rfl ?_
        exact hg _ rfl
      · have h := zif_f hc14 h
        refine zr_iconst (v := 0) C (by decide) dL_isWritten_139 ?_
        exact zno h
    · have h := zif_t hc5 h
      refine zr_bipush (v := 10) C (by decide) dL_isWritten_106 ?_
      refine zr_iload_n C 1 rfl rfl dL_isWritten_108 ?_
      refine zr_iload_n C 2 rfl rfl dL_isWritten_109 ?_
      refine zr_iconst (v := 2) C (by decide) dL_isWritten_110 ?_
      refine zr_iadd C dL_isWritten_111 ?_
      refine zr_ishr C dL_isWritten_112 ?_
      refine zr_iconst (v := 3) C (by decide) dL_isWritten_113 ?_
      obtain ⟨r15, h16, h⟩ := zb_e h
      refine zr_callSi (n := 2) (As := [.int (v2 >>> ((v3 + 2) &&& 31)), .int 3]) C (c_L_below l D cy hZ (v2 >>> ((v3 + 2) &&& 31)) 3 I A h16) wd_528 wd_529 wd_0 wd_530 (by decide +kernel) ⟨(Nat.le_trans (Nat.le_of_ble_eq_true rfl) hRf), (Nat.le_trans (Nat.le_of_ble_eq_true rfl) hRl)⟩ rfl rfl hRc rfl rfl (Nat.le_of_ble_eq_true rfl) dL_isWritten_114 ?_
      refine zr_iadd C dL_isWritten_117 ?_
      refine zr_goto (tgt := 130) C (by decide) dL_isWritten_118 ?_
      obtain ⟨r18, I19, A20, h21, h⟩ := zb3_e h
      refine zr_callVi (n := 1) (As := [.int ((10 : Int32) + r15)]) C (c_X5_token l D cy hZ v0 ((10 : Int32) + r15) k0 I A h21) wd_548 wd_549 wd_550 wd_1 wd_551 (by decide +kernel) ⟨(Nat.le_trans (Nat.le_of_ble_eq_true rfl) hRf), (Nat.le_trans (Nat.le_of_ble_eq_true rfl) hRl)⟩ rfl rfl hRc k0 (by decide) rfl rfl rfl (Nat.le_of_ble_eq_true rfl) dL_isWritten_130 ?_
      refine zr_iload_n C 2 rfl rfl dL_isWritten_133 ?_
      refine zr_iconst (v := 1) C (by decide) dL_isWritten_134 ?_
      refine zr_iadd C dL_isWritten_135 ?_
      refine zr_icmp_eq (tgt := 141) C (by decide) dL_isWritten_136 (fun hc23 => ?_) (fun hc23 => ?_)
      · have h := zif_t hc23 h
        refine zr_iinc (v := v3 + 1) (lv' := [(3, .int (v3 + 1)), (0, .ref v0), (2, .int v2)]) C 2 rfl rfl (by decide) rfl dL_isWritten_141 ?_
        refine zr_goto (tgt := 89) C (by decide) dL_isWritten_144 ?_
        obtain rfl := zso h
        refine zr_lv (lv' := [(0, .ref v0), (2, .int v2), (3, .int (v3 + 1))]) C [1, 2, 0] rfl ?_
        exact hg _ rfl
      · have h := zif_f hc23 h
        refine zr_iconst (v := 0) C (by decide) dL_isWritten_139 ?_
        exact zno h
set_option maxHeartbeats 4000000 in
set_option maxRecDepth 100000 in
theorem w_L_isWritten_89 (l : Launch) (D : va_G) (cy : Nat → ClassId) {L : List Nat} {K N : Nat → Nat} {F G : Nat → Nat → Nat} (hZ : ZL L K N F G) {p : Program} {e : Env} {R : Room} {s : State} {m : MethodId} {args : Array Value} {below : List Frame} {meth : Method} {c : Code} {cells slots : Nat} {Q : State → Prop} (C : ZC p s m args meth c cL_isWritten yL_isWritten.cls 4 D cy L K N F G) (hRf : 5 ≤ R.frames) (hRl : 111 ≤ R.locals) (hRc : cells ≤ R.cells ∧ slots ≤ R.slots)  (v0 : Nat) (v2 : Int32) (k0 : K v0 = 5) (n : Nat) (x : Int32 × zH × zH) (o : Int32 × zH × zH) (h : zIt (fun x => g_L_isWritten_89 F G v0 v2 x.1 x.2.1 x.2.2 ) n x = some o)
    (hx : ZW p l e R s m args below meth c 4 D cy L K N F G cells slots Q o.2.1 o.2.2 147 [(0, .ref v0), (2, .int v2), (3, .int o.1)] []) : ZW p l e R s m args below meth c 4 D cy L K N F G cells slots Q x.2.1 x.2.2 89 [(0, .ref v0), (2, .int v2), (3, .int x.1)] [] := by
  induction n generalizing x with
  | zero => cases h
  | succ n ih =>
    unfold zIt at h
    cases hb : g_L_isWritten_89 F G v0 v2 x.1 x.2.1 x.2.2  with
    | none => rw [hb] at h; cases h
    | some q =>
      rw [hb] at h
      refine wb_L_isWritten_89 l D cy hZ C hRf hRl hRc v0 v2 k0 x.1 x.2.1 x.2.2 q hb (fun y hy => ?_) (fun y hy => ?_)
      · subst hy; exact ih y h
      · subst hy; cases h; exact hx
set_option maxHeartbeats 4000000 in
set_option maxRecDepth 100000 in
theorem c_L_isWritten (l : Launch) (D : va_G) (cy : Nat → ClassId) {L : List Nat} {K N : Nat → Nat} {F G : Nat → Nat → Nat} (hZ : ZL L K N F G) (r0 : Nat) (p1 : Int32) (p2 : Int32) (k_r0 : K r0 = 5) (I A : zH) {r : Int32} {J' : zH} {B' : zH} (h : f_L_isWritten F G r0 p1 p2 I A = some (r, J', B')) : ZMi l yL_isWritten cL_isWritten 4 (some .boolean) { frames := 5, cells := 0, slots := 0, locals := 115 } D cy L K N F G [.ref r0, .int p1, .int p2] I A r J' B' := by
  refine ZMi.of (nL := 4) hZ rfl rfl (by decide) (Nat.le_of_ble_eq_true rfl) (fun p e s m args below meth c C hr => ?_)
  unfold f_L_isWritten at h
  refine zr_lv (lv' := [(0, .ref r0), (1, .int p1), (2, .int p2)]) C [0, 1, 2] rfl ?_
  refine zr_iload_n C 1 rfl rfl dL_isWritten_0 ?_
  refine zr_if_lt (tgt := 80) C (by decide) dL_isWritten_1 (fun hc1 => ?_) (fun hc1 => ?_)
  · have h := zif_t hc1 h
    refine zr_aload_n C 0 rfl rfl dL_isWritten_80 ?_
    refine zr_bipush (v := 12) C (by decide) dL_isWritten_81 ?_
    obtain ⟨r2, I3, A4, h5, h⟩ := zb3_e h
    refine zr_callVi (n := 1) (As := [.int 12]) C (c_X5_cut l D cy hZ r0 12 k_r0 I A h5) wd_558 wd_559 wd_560 wd_1 wd_561 (by decide +kernel) ⟨(Nat.le_of_ble_eq_true rfl), (Nat.le_of_ble_eq_true rfl)⟩ rfl rfl ⟨Nat.le_of_ble_eq_true rfl, Nat.le_of_ble_eq_true rfl⟩ k_r0 (by decide) rfl rfl rfl (Nat.le_of_ble_eq_true rfl) dL_isWritten_83 ?_
    refine zr_pop C rfl dL_isWritten_86 ?_
    refine zr_iconst (v := 0) C (by decide) dL_isWritten_87 ?_
    refine zr_istore_n (lv' := [(3, .int 0), (0, .ref r0), (1, .int p1), (2, .int p2)]) C rfl (by decide) rfl dL_isWritten_88 ?_
    obtain ⟨i7, I8, A9, h10, h⟩ := zb3_e h
    refine zr_lv (lv' := [(0, .ref r0), (2, .int p2), (3, .int 0)]) C [1, 3, 0] rfl ?_
    refine w_L_isWritten_89 l D cy hZ C (Nat.le_of_ble_eq_true rfl) (Nat.le_of_ble_eq_true rfl) ⟨Nat.le_of_ble_eq_true rfl, Nat.le_of_ble_eq_true rfl⟩ r0 p2 k_r0  2000 (0, I3, A4) (i7, I8, A9) h10 ?_
    refine zr_iconst (v := 1) C (by decide) dL_isWritten_147 ?_
    cases zso h
    exact zr_zret C hr rfl dL_isWritten_148
  · have h := zif_f hc1 h
    refine zr_iload_n C 2 rfl rfl dL_isWritten_4 ?_
    refine zr_iconst (v := 2) C (by decide) dL_isWritten_5 ?_
    obtain ⟨r11, h12, h⟩ := zb_e h
    refine zr_callSi (n := 2) (As := [.int p2, .int 2]) C (c_L_below l D cy hZ p2 2 I A h12) wd_528 wd_529 wd_0 wd_530 (by decide +kernel) ⟨(Nat.le_of_ble_eq_true rfl), (Nat.le_of_ble_eq_true rfl)⟩ rfl rfl ⟨Nat.le_of_ble_eq_true rfl, Nat.le_of_ble_eq_true rfl⟩ rfl rfl (Nat.le_of_ble_eq_true rfl) dL_isWritten_6 ?_
    refine zr_if_ne (tgt := 80) C (by decide) dL_isWritten_9 (fun hc14 => ?_) (fun hc14 => ?_)
    · have h := zif_f hc14 h
      refine zr_aload_n C 0 rfl rfl dL_isWritten_80 ?_
      refine zr_bipush (v := 12) C (by decide) dL_isWritten_81 ?_
      obtain ⟨r15, I16, A17, h18, h⟩ := zb3_e h
      refine zr_callVi (n := 1) (As := [.int 12]) C (c_X5_cut l D cy hZ r0 12 k_r0 I A h18) wd_558 wd_559 wd_560 wd_1 wd_561 (by decide +kernel) ⟨(Nat.le_of_ble_eq_true rfl), (Nat.le_of_ble_eq_true rfl)⟩ rfl rfl ⟨Nat.le_of_ble_eq_true rfl, Nat.le_of_ble_eq_true rfl⟩ k_r0 (by decide) rfl rfl rfl (Nat.le_of_ble_eq_true rfl) dL_isWritten_83 ?_
      refine zr_pop C rfl dL_isWritten_86 ?_
      refine zr_iconst (v := 0) C (by decide) dL_isWritten_87 ?_
      refine zr_istore_n (lv' := [(3, .int 0), (0, .ref r0), (1, .int p1), (2, .int p2)]) C rfl (by decide) rfl dL_isWritten_88 ?_
      obtain ⟨i20, I21, A22, h23, h⟩ := zb3_e h
      refine zr_lv (lv' := [(0, .ref r0), (2, .int p2), (3, .int 0)]) C [1, 3, 0] rfl ?_
      refine w_L_isWritten_89 l D cy hZ C (Nat.le_of_ble_eq_true rfl) (Nat.le_of_ble_eq_true rfl) ⟨Nat.le_of_ble_eq_true rfl, Nat.le_of_ble_eq_true rfl⟩ r0 p2 k_r0  2000 (0, I16, A17) (i20, I21, A22) h23 ?_
      refine zr_iconst (v := 1) C (by decide) dL_isWritten_147 ?_
      cases zso h
      exact zr_zret C hr rfl dL_isWritten_148
    · have h := zif_t hc14 h
      refine zr_aload_n C 0 rfl rfl dL_isWritten_12 ?_
      refine zr_iload_n C 1 rfl rfl dL_isWritten_13 ?_
      refine zr_iload_n C 2 rfl rfl dL_isWritten_14 ?_
      refine zr_iconst (v := 2) C (by decide) dL_isWritten_15 ?_
      refine zr_ishr C dL_isWritten_16 ?_
      refine zr_bipush (v := 10) C (by decide) dL_isWritten_17 ?_
      obtain ⟨r24, h25, h⟩ := zb_e h
      refine zr_callSi (n := 2) (As := [.int (p2 >>> (2 &&& 31)), .int 10]) C (c_L_below l D cy hZ (p2 >>> (2 &&& 31)) 10 I A h25) wd_528 wd_529 wd_0 wd_530 (by decide +kernel) ⟨(Nat.le_of_ble_eq_true rfl), (Nat.le_of_ble_eq_true rfl)⟩ rfl rfl ⟨Nat.le_of_ble_eq_true rfl, Nat.le_of_ble_eq_true rfl⟩ rfl rfl (Nat.le_of_ble_eq_true rfl) dL_isWritten_19 ?_
      obtain ⟨r27, I28, A29, h30, h⟩ := zb3_e h
      refine zr_callVi (n := 2) (As := [.int p1, .int r24]) C (c_X5_copy l D cy hZ r0 p1 r24 k_r0 I A h30) wd_539 wd_540 wd_541 wd_1 wd_542 (by decide +kernel) ⟨(Nat.le_of_ble_eq_true rfl), (Nat.le_of_ble_eq_true rfl)⟩ rfl rfl ⟨Nat.le_of_ble_eq_true rfl, Nat.le_of_ble_eq_true rfl⟩ k_r0 (by decide) rfl rfl rfl (Nat.le_of_ble_eq_true rfl) dL_isWritten_22 ?_
      refine zr_istore_n (lv' := [(3, .int r27), (0, .ref r0), (1, .int p1), (2, .int p2)]) C rfl (by decide) rfl dL_isWritten_25 ?_
      refine zr_iload_n C 0 rfl rfl dL_isWritten_26 ?_
      refine zr_aload_n C 1 rfl rfl dL_isWritten_27 ?_
      refine zr_iload_n C 2 rfl rfl dL_isWritten_28 ?_
      refine zr_iconst (v := 0) C (by decide) dL_isWritten_29 ?_
      obtain ⟨r32, h33, h⟩ := zb_e h
      refine zr_callVi (n := 2) (As := [.int p1, .int 0]) C (c_X5_ofPiece l D cy hZ r0 p1 0 k_r0 I28 A29 h33) wd_364 wd_365 wd_366 wd_1 wd_367 (by decide +kernel) ⟨(Nat.le_of_ble_eq_true rfl), (Nat.le_of_ble_eq_true rfl)⟩ rfl rfl ⟨Nat.le_of_ble_eq_true rfl, Nat.le_of_ble_eq_true rfl⟩ k_r0 (by decide) rfl rfl rfl (Nat.le_of_ble_eq_true rfl) dL_isWritten_30 ?_
      refine zr_icmp_ne (tgt := 46) C (by decide) dL_isWritten_33 (fun hc35 => ?_) (fun hc35 => ?_)
      · have h := zif_f hc35 h
        refine zr_iconst (v := 0) C (by decide) dL_isWritten_46 ?_
        exact zno h
      · have h := zif_t hc35 h
        refine zr_aload_n C 1 rfl rfl dL_isWritten_36 ?_
        refine zr_iload_n C 2 rfl rfl dL_isWritten_37 ?_
        obtain ⟨r36, h37, h⟩ := zb_e h
        refine zr_callVi (n := 1) (As := [.int p1]) C (c_X5_scan l D cy hZ r0 p1 k_r0 I28 A29 h37) wd_544 wd_545 wd_546 wd_1 wd_547 (by decide +kernel) ⟨(Nat.le_of_ble_eq_true rfl), (Nat.le_of_ble_eq_true rfl)⟩ rfl rfl ⟨Nat.le_of_ble_eq_true rfl, Nat.le_of_ble_eq_true rfl⟩ k_r0 (by decide) rfl rfl rfl (Nat.le_of_ble_eq_true rfl) dL_isWritten_38 ?_
        refine zr_bipush (v := 100) C (by decide) dL_isWritten_41 ?_
        refine zr_icmp_eq (tgt := 48) C (by decide) dL_isWritten_43 (fun hc39 => ?_) (fun hc39 => ?_)
        · have h := zif_t hc39 h
          refine zr_iload_n C 0 rfl rfl dL_isWritten_48 ?_
          refine zr_bipush (v := 11) C (by decide) dL_isWritten_49 ?_
          refine zr_icmp_gt (tgt := 74) C (by decide) dL_isWritten_51 (fun hc40 => ?_) (fun hc40 => ?_)
          · have h := zif_t hc40 h
            refine zr_iconst (v := 1) C (by decide) dL_isWritten_74 ?_
            refine zr_goto (tgt := 79) C (by decide) dL_isWritten_75 ?_
            cases zso h
            exact zr_zret C hr rfl dL_isWritten_79
          · have h := zif_f hc40 h
            refine zr_aload_n C 1 rfl rfl dL_isWritten_54 ?_
            refine zr_bipush (v := 10) C (by decide) dL_isWritten_55 ?_
            refine zr_iload_n C 3 rfl rfl dL_isWritten_57 ?_
            refine zr_iconst (v := 4) C (by decide) dL_isWritten_58 ?_
            refine zr_ishr C dL_isWritten_59 ?_
            refine zr_iconst (v := 5) C (by decide) dL_isWritten_60 ?_
            obtain ⟨r41, h42, h⟩ := zb_e h
            refine zr_callSi (n := 2) (As := [.int (p2 >>> (4 &&& 31)), .int 5]) C (c_L_below l D cy hZ (p2 >>> (4 &&& 31)) 5 I28 A29 h42) wd_528 wd_529 wd_0 wd_530 (by decide +kernel) ⟨(Nat.le_of_ble_eq_true rfl), (Nat.le_of_ble_eq_true rfl)⟩ rfl rfl ⟨Nat.le_of_ble_eq_true rfl, Nat.le_of_ble_eq_true rfl⟩ rfl rfl (Nat.le_of_ble_eq_true rfl) dL_isWritten_61 ?_
            refine zr_iadd C dL_isWritten_64 ?_
            obtain ⟨r44, I45, A46, h47, h⟩ := zb3_e h
            refine zr_callVi (n := 1) (As := [.int ((10 : Int32) + r41)]) C (c_X5_token l D cy hZ r0 ((10 : Int32) + r41) k_r0 I28 A29 h47) wd_548 wd_549 wd_550 wd_1 wd_551 (by decide +kernel) ⟨(Nat.le_of_ble_eq_true rfl), (Nat.le_of_ble_eq_true rfl)⟩ rfl rfl ⟨Nat.le_of_ble_eq_true rfl, Nat.le_of_ble_eq_true rfl⟩ k_r0 (by decide) rfl rfl rfl (Nat.le_of_ble_eq_true rfl) dL_isWritten_65 ?_
            refine zr_iload_n C 0 rfl rfl dL_isWritten_68 ?_
            refine zr_iconst (v := 1) C (by decide) dL_isWritten_69 ?_
            refine zr_iadd C dL_isWritten_70 ?_
            refine zr_icmp_ne (tgt := 78) C (by decide) dL_isWritten_71 (fun hc49 => ?_) (fun hc49 => ?_)
            · have h := zif_f hc49 h
              refine zr_iconst (v := 0) C (by decide) dL_isWritten_78 ?_
              exact zno h
            · have h := zif_t hc49 h
              refine zr_iconst (v := 1) C (by decide) dL_isWritten_74 ?_
              refine zr_goto (tgt := 79) C (by decide) dL_isWritten_75 ?_
              cases zso h
              exact zr_zret C hr rfl dL_isWritten_79
        · have h := zif_f hc39 h
          refine zr_iconst (v := 0) C (by decide) dL_isWritten_46 ?_
          exact zno h

def g_L_isCleared_56 (F G : Nat → Nat → Nat) (v0 : Nat) (v1 : Int32) (v2 : Int32) (v4 : Int32) (I : zH) (A : zH) (w : Nat → Int32) : Option ((Int32 × zH × zH × (Nat → Int32)) ⊕ (Int32 × zH × zH × (Nat → Int32))) :=
  if 10 ≤ v4 then (
    some (.inr (v4, I, A, w))
  ) else (
    if ((v2 >>> (v4 &&& 31)) &&& 1) = 1 then (
      zb3 (f_X5_replace F G v0 v1 v4 (-1) I A) fun r3 I4 A5 =>
      zck (¬ (v4 < 0 ∨ 10 ≤ v4.toNatClampNeg)) <|
      zlet (upd w v4.toNatClampNeg r3) fun w9 =>
      some (.inl (v4 + 1, I4, A5, w9))
    ) else (
      some (.inl (v4 + 1, I, A, w))
    )
  )
def g_L_isCleared_105 (F G : Nat → Nat → Nat) (v0 : Nat) (v1 : Int32) (v2 : Int32) (w : Nat → Int32) (v4 : Int32) (I : zH) (A : zH) : Option ((Int32 × zH × zH) ⊕ (Int32 × zH × zH)) :=
  if 10 ≤ v4 then (
    some (.inr (v4, I, A))
  ) else (
    if ((v2 >>> (v4 &&& 31)) &&& 1) = 1 then (
      zck (¬ (v4 < 0 ∨ 10 ≤ v4.toNatClampNeg)) <|
      zb3 (f_X5_replace F G v0 v1 v4 (w v4.toNatClampNeg) I A) fun r4 I5 A6 =>
      if r4 = (-1) then (
        some (.inl (v4 + 1, I5, A6))
      ) else (
        none
      )
    ) else (
      some (.inl (v4 + 1, I, A))
    )
  )
def f_L_isCleared (F G : Nat → Nat → Nat) (r0 : Nat) (p1 : Int32) (I A : zH) : Option (Int32 × zH × zH) :=
  zb2 (f_X5_remedy F G r0 p1 I A) fun r1 A2 =>
  zb (f_X5_ofProject F G r0 p1 0 I A2) fun r5 =>
  if r5 = 1 then (
    if r1 = 0 then (
      zb (f_X5_ofProject F G r0 p1 2 I A2) fun r54 =>
      if r54 ≤ 0 then (
        if r1 ≤ 0 then (
          zb4 (zIt (fun x => g_L_isCleared_56 F G r0 p1 r1 x.1 x.2.1 x.2.2.1 x.2.2.2 ) 2000 (0, I, A2, (fun _ => 0))) fun i60 I61 A62 w63 =>
          zb (f_X5_ofProject F G r0 p1 2 I61 A62) fun r64 =>
          if r64 = 0 then (
            zb3 (zIt (fun x => g_L_isCleared_105 F G r0 p1 r1 w63 x.1 x.2.1 x.2.2 ) 2000 (0, I61, A62)) fun i68 I69 A70 =>
            zb2 (f_X5_remedy F G r0 p1 I69 A70) fun r71 A72 =>
            if r71 = r1 then (
              some (1, I69, A72)
            ) else (
              none
            )
          ) else (
            none
          )
        ) else (
          none
        )
      ) else (
        if r1 ≤ 0 then (
          none
        ) else (
          zb4 (zIt (fun x => g_L_isCleared_56 F G r0 p1 r1 x.1 x.2.1 x.2.2.1 x.2.2.2 ) 2000 (0, I, A2, (fun _ => 0))) fun i80 I81 A82 w83 =>
          zb (f_X5_ofProject F G r0 p1 2 I81 A82) fun r84 =>
          if r84 = 0 then (
            zb3 (zIt (fun x => g_L_isCleared_105 F G r0 p1 r1 w83 x.1 x.2.1 x.2.2 ) 2000 (0, I81, A82)) fun i88 I89 A90 =>
            zb2 (f_X5_remedy F G r0 p1 I89 A90) fun r91 A92 =>
            if r91 = r1 then (
              some (1, I89, A92)
            ) else (
              none
            )
          ) else (
            none
          )
        )
      )
    ) else (
      none
    )
  ) else (
    zb (f_X5_ofProject F G r0 p1 2 I A2) fun r9 =>
    if r9 ≤ 0 then (
      if r1 ≤ 0 then (
        zb4 (zIt (fun x => g_L_isCleared_56 F G r0 p1 r1 x.1 x.2.1 x.2.2.1 x.2.2.2 ) 2000 (0, I, A2, (fun _ => 0))) fun i15 I16 A17 w18 =>
        zb (f_X5_ofProject F G r0 p1 2 I16 A17) fun r19 =>
        if r19 = 0 then (
          zb3 (zIt (fun x => g_L_isCleared_105 F G r0 p1 r1 w18 x.1 x.2.1 x.2.2 ) 2000 (0, I16, A17)) fun i23 I24 A25 =>
          zb2 (f_X5_remedy F G r0 p1 I24 A25) fun r26 A27 =>
          if r26 = r1 then (
            some (1, I24, A27)
          ) else (
            none
          )
        ) else (
          none
        )
      ) else (
        none
      )
    ) else (
      if r1 ≤ 0 then (
        none
      ) else (
        zb4 (zIt (fun x => g_L_isCleared_56 F G r0 p1 r1 x.1 x.2.1 x.2.2.1 x.2.2.2 ) 2000 (0, I, A2, (fun _ => 0))) fun i35 I36 A37 w38 =>
        zb (f_X5_ofProject F G r0 p1 2 I36 A37) fun r39 =>
        if r39 = 0 then (
          zb3 (zIt (fun x => g_L_isCleared_105 F G r0 p1 r1 w38 x.1 x.2.1 x.2.2 ) 2000 (0, I36, A37)) fun i43 I44 A45 =>
          zb2 (f_X5_remedy F G r0 p1 I44 A45) fun r46 A47 =>
          if r46 = r1 then (
            some (1, I44, A47)
          ) else (
            none
          )
        ) else (
          none
        )
      )
    )
  )
set_option maxHeartbeats 4000000 in
set_option maxRecDepth 100000 in
theorem wb_L_isCleared_56 (l : Launch) (D : va_G) (cy : Nat → ClassId) {L : List Nat} {K N : Nat → Nat} {F G : Nat → Nat → Nat} (hZ : ZL L K N F G) {p : Program} {e : Env} {R : Room} {s : State} {m : MethodId} {args : Array Value} {below : List Frame} {meth : Method} {c : Code} {cells slots : Nat} {Q : State → Prop} (C : ZC p s m args meth c cL_isCleared yL_isCleared.cls 5 D cy L K N F G) (hRf : 7 ≤ R.frames) (hRl : 163 ≤ R.locals) (hRc : cells ≤ R.cells ∧ slots ≤ R.slots)  (v0 : Nat) (v1 : Int32) (v2 : Int32) (v3 : Nat) (k0 : K v0 = 5) (v4 : Int32) (I : zH) (A : zH) (w : Nat → Int32) (o : (Int32 × zH × zH × (Nat → Int32)) ⊕ (Int32 × zH × zH × (Nat → Int32))) (h : g_L_isCleared_56 F G v0 v1 v2 v4 I A w  = some o)
    (hg : ∀ y : Int32 × zH × zH × (Nat → Int32), o = .inl y → ZV p l e R s m args below meth c 5 D cy L K N F G (zE1 D (cy 6) L s.heap.size v3 10 y.2.2.2) cells slots Q y.2.1 y.2.2.1 56 [(0, .ref v0), (1, .int v1), (2, .int v2), (3, .ref v3), (4, .int y.1)] [])
    (hx : ∀ y : Int32 × zH × zH × (Nat → Int32), o = .inr y → ZV p l e R s m args below meth c 5 D cy L K N F G (zE1 D (cy 6) L s.heap.size v3 10 y.2.2.2) cells slots Q y.2.1 y.2.2.1 91 [(0, .ref v0), (1, .int v1), (2, .int v2), (3, .ref v3), (4, .int y.1)] []) : ZV p l e R s m args below meth c 5 D cy L K N F G (zE1 D (cy 6) L s.heap.size v3 10 w) cells slots Q I A 56 [(0, .ref v0), (1, .int v1), (2, .int v2), (3, .ref v3), (4, .int v4)] [] := by
  unfold g_L_isCleared_56 at h
  refine zv_iload C 4 rfl dL_isCleared_56 ?_
  refine zv_bipush (v := 10) C (by decide) dL_isCleared_58 ?_
  refine zv_icmp_ge (tgt := 91) C (by decide) dL_isCleared_60 (fun hc1 => ?_) (fun hc1 => ?_)
  · have h := zif_t hc1 h
    obtain rfl := zso h
    refine zv_lv (lv' := [(0, .ref v0), (1, .int v1), (2, .int v2), (3, .ref v3), (4, .int v4)]) C [0, 1, 2, 3, 4] rfl ?_
    exact hx _ rfl
  · have h := zif_f hc1 h
    refine zv_iload_n C 2 rfl rfl dL_isCleared_63 ?_
    refine zv_iload C 4 rfl dL_isCleared_64 ?_
    refine zv_ishr C dL_isCleared_66 ?_
    refine zv_iconst (v := 1) C (by decide) dL_isCleared_67 ?_
    refine zv_iand C dL_isCleared_68 ?_
    refine zv_iconst (v := 1) C (by decide) dL_isCleared_69 ?_
    refine zv_icmp_ne (tgt := 85) C (by decide) dL_isCleared_70 (fun hc2 => ?_) (fun hc2 => ?_)
    · have h := zif_f hc2 h
      refine zv_iinc (v := v4 + 1) (lv' := [(4, .int (v4 + 1)), (0, .ref v0), (1, .int v1), (2, .int v2), (3, .ref v3)]) C 4 rfl rfl (by decide) rfl dL_isCleared_85 ?_
      refine zv_goto (tgt := 56) C (by decide) dL_isCleared_88 ?_
      obtain rfl := zso h
      refine zv_lv (lv' := [(0, .ref v0), (1, .int v1), (2, .int v2), (3, .ref v3), (4, .int (v4 + 1))]) C [1, 2, 3, 4, 0] rfl ?_
      exact hg _ rfl
    · have h := zif_t hc2 h
      refine zv_aload_n C 3 rfl rfl dL_isCleared_73 ?_
      refine zv_iload C 4 rfl dL_isCleared_74 ?_
      refine zv_aload_n C 0 rfl rfl dL_isCleared_76 ?_
      refine zv_iload_n C 1 rfl rfl dL_isCleared_77 ?_
      refine zv_iload C 4 rfl dL_isCleared_78 ?_
      refine zv_iconst (v := (-1)) C (by decide) dL_isCleared_80 ?_
      obtain ⟨r3, I4, A5, h6, h⟩ := zb3_e h
      refine zv_callVi (n := 3) (As := [.int v1, .int v4, .int (-1)]) C (c_X5_replace l D cy hZ v0 v1 v4 (-1) k0 I A h6) wd_586 wd_587 wd_588 wd_1 wd_589 (by decide +kernel) ⟨(Nat.le_trans (Nat.le_of_ble_eq_true rfl) hRf), (Nat.le_trans (Nat.le_of_ble_eq_true rfl) hRl)⟩ rfl rfl hRc k0 (by decide) rfl rfl rfl (Nat.le_of_ble_eq_true rfl) dL_isCleared_81 zE1.keep ?_
      obtain ⟨hc8, h⟩ := zck_e h
      refine zv_wst C hc8 dL_isCleared_84 ?_
      obtain ⟨w9, ew9, h⟩ := zlet_e h
      rw [← ew9]
      refine zv_iinc (v := v4 + 1) (lv' := [(4, .int (v4 + 1)), (0, .ref v0), (1, .int v1), (2, .int v2), (3, .ref v3)]) C 4 rfl rfl (by decide) rfl dL_isCleared_85 ?_
      refine zv_goto (tgt := 56) C (by decide) dL_isCleared_88 ?_
      obtain rfl := zso h
      refine zv_lv (lv' := [(0, .ref v0), (1, .int v1), (2, .int v2), (3, .ref v3), (4, .int (v4 + 1))]) C [1, 2, 3, 4, 0] rfl ?_
      exact hg _ rfl
set_option maxHeartbeats 4000000 in
set_option maxRecDepth 100000 in
theorem w_L_isCleared_56 (l : Launch) (D : va_G) (cy : Nat → ClassId) {L : List Nat} {K N : Nat → Nat} {F G : Nat → Nat → Nat} (hZ : ZL L K N F G) {p : Program} {e : Env} {R : Room} {s : State} {m : MethodId} {args : Array Value} {below : List Frame} {meth : Method} {c : Code} {cells slots : Nat} {Q : State → Prop} (C : ZC p s m args meth c cL_isCleared yL_isCleared.cls 5 D cy L K N F G) (hRf : 7 ≤ R.frames) (hRl : 163 ≤ R.locals) (hRc : cells ≤ R.cells ∧ slots ≤ R.slots)  (v0 : Nat) (v1 : Int32) (v2 : Int32) (v3 : Nat) (k0 : K v0 = 5) (n : Nat) (x : Int32 × zH × zH × (Nat → Int32)) (o : Int32 × zH × zH × (Nat → Int32)) (h : zIt (fun x => g_L_isCleared_56 F G v0 v1 v2 x.1 x.2.1 x.2.2.1 x.2.2.2 ) n x = some o)
    (hx : ZV p l e R s m args below meth c 5 D cy L K N F G (zE1 D (cy 6) L s.heap.size v3 10 o.2.2.2) cells slots Q o.2.1 o.2.2.1 91 [(0, .ref v0), (1, .int v1), (2, .int v2), (3, .ref v3), (4, .int o.1)] []) : ZV p l e R s m args below meth c 5 D cy L K N F G (zE1 D (cy 6) L s.heap.size v3 10 x.2.2.2) cells slots Q x.2.1 x.2.2.1 56 [(0, .ref v0), (1, .int v1), (2, .int v2), (3, .ref v3), (4, .int x.1)] [] := by
  induction n generalizing x with
  | zero => cases h
  | succ n ih =>
    unfold zIt at h
    cases hb : g_L_isCleared_56 F G v0 v1 v2 x.1 x.2.1 x.2.2.1 x.2.2.2  with
    | none => rw [hb] at h; cases h
    | some q =>
      rw [hb] at h
      refine wb_L_isCleared_56 l D cy hZ C hRf hRl hRc v0 v1 v2 v3 k0 x.1 x.2.1 x.2.2.1 x.2.2.2 q hb (fun y hy => ?_) (fun y hy => ?_)
      · subst hy; exact ih y h
      · subst hy; cases h; exact hx
set_option maxHeartbeats 4000000 in
set_option maxRecDepth 100000 in
theorem wb_L_isCleared_105 (l : Launch) (D : va_G) (cy : Nat → ClassId) {L : List Nat} {K N : Nat → Nat} {F G : Nat → Nat → Nat} (hZ : ZL L K N F G) {p : Program} {e : Env} {R : Room} {s : State} {m : MethodId} {args : Array Value} {below : List Frame} {meth : Method} {c : Code} {cells slots : Nat} {Q : State → Prop} (C : ZC p s m args meth c cL_isCleared yL_isCleared.cls 5 D cy L K N F G) (hRf : 7 ≤ R.frames) (hRl : 163 ≤ R.locals) (hRc : cells ≤ R.cells ∧ slots ≤ R.slots)  (v0 : Nat) (v1 : Int32) (v2 : Int32) (v3 : Nat) (w : Nat → Int32) (k0 : K v0 = 5) (v4 : Int32) (I : zH) (A : zH) (o : (Int32 × zH × zH) ⊕ (Int32 × zH × zH)) (h : g_L_isCleared_105 F G v0 v1 v2 w v4 I A  = some o)
    (hg : ∀ y : Int32 × zH × zH, o = .inl y → ZV p l e R s m args below meth c 5 D cy L K N F G (zE1 D (cy 6) L s.heap.size v3 10 w) cells slots Q y.2.1 y.2.2 105 [(0, .ref v0), (1, .int v1), (2, .int v2), (3, .ref v3), (4, .int y.1)] [])
    (hx : ∀ y : Int32 × zH × zH, o = .inr y → ZV p l e R s m args below meth c 5 D cy L K N F G (zE1 D (cy 6) L s.heap.size v3 10 w) cells slots Q y.2.1 y.2.2 145 [(0, .ref v0), (1, .int v1), (2, .int v2), (3, .ref v3), (4, .int y.1)] []) : ZV p l e R s m args below meth c 5 D cy L K N F G (zE1 D (cy 6) L s.heap.size v3 10 w) cells slots Q I A 105 [(0, .ref v0), (1, .int v1), (2, .int v2), (3, .ref v3), (4, .int v4)] [] := by
  unfold g_L_isCleared_105 at h
  refine zv_iload C 4 rfl dL_isCleared_105 ?_
  refine zv_bipush (v := 10) C (by decide) dL_isCleared_107 ?_
  refine zv_icmp_ge (tgt := 145) C (by decide) dL_isCleared_109 (fun hc1 => ?_) (fun hc1 => ?_)
  · have h := zif_t hc1 h
    obtain rfl := zso h
    refine zv_lv (lv' := [(0, .ref v0), (1, .int v1), (2, .int v2), (3, .ref v3), (4, .int v4)]) C [0, 1, 2, 3, 4] rfl ?_
    exact hx _ rfl
  · have h := zif_f hc1 h
    refine zv_iload_n C 2 rfl rfl dL_isCleared_112 ?_
    refine zv_iload C 4 rfl dL_isCleared_113 ?_
    refine zv_ishr C dL_isCleared_115 ?_
    refine zv_iconst (v := 1) C (by decide) dL_isCleared_116 ?_
    refine zv_iand C dL_isCleared_117 ?_
    refine zv_iconst (v := 1) C (by decide) dL_isCleared_118 ?_
    refine zv_icmp_ne (tgt := 139) C (by decide) dL_isCleared_119 (fun hc2 => ?_) (fun hc2 => ?_)
    · have h := zif_f hc2 h
      refine zv_iinc (v := v4 + 1) (lv' := [(4, .int (v4 + 1)), (0, .ref v0), (1, .int v1), (2, .int v2), (3, .ref v3)]) C 4 rfl rfl (by decide) rfl dL_isCleared_139 ?_
      refine zv_goto (tgt := 105) C (by decide) dL_isCleared_142 ?_
      obtain rfl := zso h
      refine zv_lv (lv' := [(0, .ref v0), (1, .int v1), (2, .int v2), (3, .ref v3), (4, .int (v4 + 1))]) C [1, 2, 3, 4, 0] rfl ?_
      exact hg _ rfl
    · have h := zif_t hc2 h
      refine zv_aload_n C 0 rfl rfl dL_isCleared_122 ?_
      refine zv_iload_n C 1 rfl rfl dL_isCleared_123 ?_
      refine zv_iload C 4 rfl dL_isCleared_124 ?_
      refine zv_aload_n C 3 rfl rfl dL_isCleared_126 ?_
      refine zv_iload C 4 rfl dL_isCleared_127 ?_
      obtain ⟨hc3, h⟩ := zck_e h
      refine zv_wld C hc3 dL_isCleared_129 ?_
      obtain ⟨r4, I5, A6, h7, h⟩ := zb3_e h
      refine zv_callVi (n := 3) (As := [.int v1, .int v4, .int (w v4.toNatClampNeg)]) C (c_X5_replace l D cy hZ v0 v1 v4 (w v4.toNatClampNeg) k0 I A h7) wd_586 wd_587 wd_588 wd_1 wd_589 (by decide +kernel) ⟨(Nat.le_trans (Nat.le_of_ble_eq_true rfl) hRf), (Nat.le_trans (Nat.le_of_ble_eq_true rfl) hRl)⟩ rfl rfl hRc k0 (by decide) rfl rfl rfl (Nat.le_of_ble_eq_true rfl) dL_isCleared_130 zE1.keep ?_
      refine zv_iconst (v := (-1)) C (by decide) dL_isCleared_133 ?_
      refine zv_icmp_eq (tgt := 139) C (by decide) dL_isCleared_134 (fun hc9 => ?_) (fun hc9 => ?_)
      · have h := zif_t hc9 h
        refine zv_iinc (v := v4 + 1) (lv' := [(4, .int (v4 + 1)), (0, .ref v0), (1, .int v1), (2, .int v2), (3, .ref v3)]) C 4 rfl rfl (by decide) rfl dL_isCleared_139 ?_
        refine zv_goto (tgt := 105) C (by decide) dL_isCleared_142 ?_
        obtain rfl := zso h
        refine zv_lv (lv' := [(0, .ref v0), (1, .int v1), (2, .int v2), (3, .ref v3), (4, .int (v4 + 1))]) C [1, 2, 3, 4, 0] rfl ?_
        exact hg _ rfl
      · have h := zif_f hc9 h
        refine zv_iconst (v := 0) C (by decide) dL_isCleared_137 ?_
        exact zno h
set_option maxHeartbeats 4000000 in
set_option maxRecDepth 100000 in
theorem w_L_isCleared_105 (l : Launch) (D : va_G) (cy : Nat → ClassId) {L : List Nat} {K N : Nat → Nat} {F G : Nat → Nat → Nat} (hZ : ZL L K N F G) {p : Program} {e : Env} {R : Room} {s : State} {m : MethodId} {args : Array Value} {below : List Frame} {meth : Method} {c : Code} {cells slots : Nat} {Q : State → Prop} (C : ZC p s m args meth c cL_isCleared yL_isCleared.cls 5 D cy L K N F G) (hRf : 7 ≤ R.frames) (hRl : 163 ≤ R.locals) (hRc : cells ≤ R.cells ∧ slots ≤ R.slots)  (v0 : Nat) (v1 : Int32) (v2 : Int32) (v3 : Nat) (w : Nat → Int32) (k0 : K v0 = 5) (n : Nat) (x : Int32 × zH × zH) (o : Int32 × zH × zH) (h : zIt (fun x => g_L_isCleared_105 F G v0 v1 v2 w x.1 x.2.1 x.2.2 ) n x = some o)
    (hx : ZV p l e R s m args below meth c 5 D cy L K N F G (zE1 D (cy 6) L s.heap.size v3 10 w) cells slots Q o.2.1 o.2.2 145 [(0, .ref v0), (1, .int v1), (2, .int v2), (3, .ref v3), (4, .int o.1)] []) : ZV p l e R s m args below meth c 5 D cy L K N F G (zE1 D (cy 6) L s.heap.size v3 10 w) cells slots Q x.2.1 x.2.2 105 [(0, .ref v0), (1, .int v1), (2, .int v2), (3, .ref v3), (4, .int x.1)] [] := by
  induction n generalizing x with
  | zero => cases h
  | succ n ih =>
    unfold zIt at h
    cases hb : g_L_isCleared_105 F G v0 v1 v2 w x.1 x.2.1 x.2.2  with
    | none => rw [hb] at h; cases h
    | some q =>
      rw [hb] at h
      refine wb_L_isCleared_105 l D cy hZ C hRf hRl hRc v0 v1 v2 v3 w k0 x.1 x.2.1 x.2.2 q hb (fun y hy => ?_) (fun y hy => ?_)
      · subst hy; exact ih y h
      · subst hy; cases h; exact hx
set_option maxHeartbeats 4000000 in
set_option maxRecDepth 100000 in
theorem c_L_isCleared (l : Launch) (D : va_G) (cy : Nat → ClassId) {L : List Nat} {K N : Nat → Nat} {F G : Nat → Nat → Nat} (hZ : ZL L K N F G) (r0 : Nat) (p1 : Int32) (k_r0 : K r0 = 5) (I A : zH) {r : Int32} {J' : zH} {B' : zH} (h : f_L_isCleared F G r0 p1 I A = some (r, J', B')) : ZMx l yL_isCleared cL_isCleared 5 (some .boolean) { frames := 7, cells := 1, slots := 10, locals := 163 } 1 10 D cy L K N F G [.ref r0, .int p1] I A r J' B' := by
  refine ZMx.of (nL := 5) hZ rfl rfl (by decide) (Nat.le_of_ble_eq_true rfl) (fun p e s m args below meth c C hr => ?_)
  unfold f_L_isCleared at h
  refine zr_lv (lv' := [(0, .ref r0), (1, .int p1)]) C [0, 1] rfl ?_
  refine zr_aload_n C 0 rfl rfl dL_isCleared_0 ?_
  refine zr_iload_n C 1 rfl rfl dL_isCleared_1 ?_
  obtain ⟨r1, A2, h3, h⟩ := zb2_e h
  refine zr_callVi (n := 1) (As := [.int p1]) C (c_X5_remedy l D cy hZ r0 p1 k_r0 I A h3) wd_570 wd_571 wd_572 wd_1 wd_573 (by decide +kernel) ⟨(Nat.le_of_ble_eq_true rfl), (Nat.le_of_ble_eq_true rfl)⟩ rfl rfl ⟨Nat.le_of_ble_eq_true rfl, Nat.le_of_ble_eq_true rfl⟩ k_r0 (by decide) rfl rfl rfl (Nat.le_of_ble_eq_true rfl) dL_isCleared_2 ?_
  refine zr_istore_n (lv' := [(2, .int r1), (0, .ref r0), (1, .int p1)]) C rfl (by decide) rfl dL_isCleared_5 ?_
  refine zr_aload_n C 1 rfl rfl dL_isCleared_6 ?_
  refine zr_iload_n C 2 rfl rfl dL_isCleared_7 ?_
  refine zr_iconst (v := 0) C (by decide) dL_isCleared_8 ?_
  obtain ⟨r5, h6, h⟩ := zb_e h
  refine zr_callVi (n := 2) (As := [.int p1, .int 0]) C (c_X5_ofProject l D cy hZ r0 p1 0 k_r0 I A2 h6) wd_499 wd_500 wd_501 wd_1 wd_502 (by decide +kernel) ⟨(Nat.le_of_ble_eq_true rfl), (Nat.le_of_ble_eq_true rfl)⟩ rfl rfl ⟨Nat.le_of_ble_eq_true rfl, Nat.le_of_ble_eq_true rfl⟩ k_r0 (by decide) rfl rfl rfl (Nat.le_of_ble_eq_true rfl) dL_isCleared_9 ?_
  refine zr_iconst (v := 1) C (by decide) dL_isCleared_12 ?_
  refine zr_icmp_ne (tgt := 20) C (by decide) dL_isCleared_13 (fun hc8 => ?_) (fun hc8 => ?_)
  · have h := zif_f hc8 h
    refine zr_aload_n C 1 rfl rfl dL_isCleared_20 ?_
    refine zr_iload_n C 2 rfl rfl dL_isCleared_21 ?_
    refine zr_iconst (v := 2) C (by decide) dL_isCleared_22 ?_
    obtain ⟨r9, h10, h⟩ := zb_e h
    refine zr_callVi (n := 2) (As := [.int p1, .int 2]) C (c_X5_ofProject l D cy hZ r0 p1 2 k_r0 I A2 h10) wd_499 wd_500 wd_501 wd_1 wd_502 (by decide +kernel) ⟨(Nat.le_of_ble_eq_true rfl), (Nat.le_of_ble_eq_true rfl)⟩ rfl rfl ⟨Nat.le_of_ble_eq_true rfl, Nat.le_of_ble_eq_true rfl⟩ k_r0 (by decide) rfl rfl rfl (Nat.le_of_ble_eq_true rfl) dL_isCleared_23 ?_
    refine zr_if_le (tgt := 33) C (by decide) dL_isCleared_26 (fun hc12 => ?_) (fun hc12 => ?_)
    · have h := zif_t hc12 h
      refine zr_iconst (v := 0) C (by decide) dL_isCleared_33 ?_
      refine zr_iload_n C 0 rfl rfl dL_isCleared_34 ?_
      refine zr_if_le (tgt := 42) C (by decide) dL_isCleared_35 (fun hc13 => ?_) (fun hc13 => ?_)
      · have h := zif_t hc13 h
        refine zr_iconst (v := 0) C (by decide) dL_isCleared_42 ?_
        refine zr_icmp_eq (tgt := 48) C (by decide) dL_isCleared_43 (fun _ => ?_) (fun hc => absurd hc (by decide))
        refine zr_bipush (v := 10) C (by decide) dL_isCleared_48 ?_
        refine zv_newa C wd_44 (Nat.le_of_ble_eq_true rfl) (Nat.le_of_ble_eq_true rfl) dL_isCleared_50 (fun q14 => ?_)
        refine zv_widen (k := 1) (n := 10) (Nat.le_of_ble_eq_true rfl) (Nat.le_of_ble_eq_true rfl) ?_
        refine zv_astore_n (lv' := [(3, .ref q14), (2, .int r1), (0, .ref r0), (1, .int p1)]) C rfl (by decide) rfl dL_isCleared_52 ?_
        refine zv_iconst (v := 0) C (by decide) dL_isCleared_53 ?_
        refine zv_istore (lv' := [(4, .int 0), (3, .ref q14), (2, .int r1), (0, .ref r0), (1, .int p1)]) C (by decide) rfl dL_isCleared_54 ?_
        obtain ⟨i15, I16, A17, w18, h32, h⟩ := zb4_e h
        refine zv_lv (lv' := [(0, .ref r0), (1, .int p1), (2, .int r1), (3, .ref q14), (4, .int 0)]) C [3, 4, 2, 1, 0] rfl ?_
        refine w_L_isCleared_56 l D cy hZ C (Nat.le_of_ble_eq_true rfl) (Nat.le_of_ble_eq_true rfl) ⟨Nat.le_of_ble_eq_true rfl, Nat.le_of_ble_eq_true rfl⟩ r0 p1 r1 q14 k_r0  2000 (0, I, A2, (fun _ => 0)) (i15, I16, A17, w18) h32 ?_
        refine zv_aload_n C 0 rfl rfl dL_isCleared_91 ?_
        refine zv_iload_n C 1 rfl rfl dL_isCleared_92 ?_
        refine zv_iconst (v := 2) C (by decide) dL_isCleared_93 ?_
        obtain ⟨r19, h20, h⟩ := zb_e h
        refine zv_callVi (n := 2) (As := [.int p1, .int 2]) C (c_X5_ofProject l D cy hZ r0 p1 2 k_r0 I16 A17 h20) wd_499 wd_500 wd_501 wd_1 wd_502 (by decide +kernel) ⟨(Nat.le_of_ble_eq_true rfl), (Nat.le_of_ble_eq_true rfl)⟩ rfl rfl ⟨Nat.le_of_ble_eq_true rfl, Nat.le_of_ble_eq_true rfl⟩ k_r0 (by decide) rfl rfl rfl (Nat.le_of_ble_eq_true rfl) dL_isCleared_94 zE1.keep ?_
        refine zv_if_eq (tgt := 102) C (by decide) dL_isCleared_97 (fun hc22 => ?_) (fun hc22 => ?_)
        · have h := zif_t hc22 h
          refine zv_iconst (v := 0) C (by decide) dL_isCleared_102 ?_
          refine zv_istore (lv' := [(4, .int 0), (0, .ref r0), (1, .int p1), (2, .int r1), (3, .ref q14)]) C (by decide) rfl dL_isCleared_103 ?_
          obtain ⟨i23, I24, A25, h31, h⟩ := zb3_e h
          refine zv_lv (lv' := [(0, .ref r0), (1, .int p1), (2, .int r1), (3, .ref q14), (4, .int 0)]) C [1, 2, 3, 4, 0] rfl ?_
          refine w_L_isCleared_105 l D cy hZ C (Nat.le_of_ble_eq_true rfl) (Nat.le_of_ble_eq_true rfl) ⟨Nat.le_of_ble_eq_true rfl, Nat.le_of_ble_eq_true rfl⟩ r0 p1 r1 q14 w18 k_r0  2000 (0, I16, A17) (i23, I24, A25) h31 ?_
          refine zv_aload_n C 0 rfl rfl dL_isCleared_145 ?_
          refine zv_iload_n C 1 rfl rfl dL_isCleared_146 ?_
          obtain ⟨r26, A27, h28, h⟩ := zb2_e h
          refine zv_callVi (n := 1) (As := [.int p1]) C (c_X5_remedy l D cy hZ r0 p1 k_r0 I24 A25 h28) wd_570 wd_571 wd_572 wd_1 wd_573 (by decide +kernel) ⟨(Nat.le_of_ble_eq_true rfl), (Nat.le_of_ble_eq_true rfl)⟩ rfl rfl ⟨Nat.le_of_ble_eq_true rfl, Nat.le_of_ble_eq_true rfl⟩ k_r0 (by decide) rfl rfl rfl (Nat.le_of_ble_eq_true rfl) dL_isCleared_147 zE1.keep ?_
          refine zv_iload_n C 2 rfl rfl dL_isCleared_150 ?_
          refine zv_icmp_ne (tgt := 158) C (by decide) dL_isCleared_151 (fun hc30 => ?_) (fun hc30 => ?_)
          · have h := zif_f hc30 h
            refine zv_iconst (v := 0) C (by decide) dL_isCleared_158 ?_
            exact zno h
          · have h := zif_t hc30 h
            refine zv_iconst (v := 1) C (by decide) dL_isCleared_154 ?_
            refine zv_goto (tgt := 159) C (by decide) dL_isCleared_155 ?_
            cases zso h
            exact zv_zret C hr rfl dL_isCleared_159
        · have h := zif_f hc22 h
          refine zv_iconst (v := 0) C (by decide) dL_isCleared_100 ?_
          exact zno h
      · have h := zif_f hc13 h
        refine zr_iconst (v := 1) C (by decide) dL_isCleared_38 ?_
        refine zr_goto (tgt := 43) C (by decide) dL_isCleared_39 ?_
        refine zr_icmp_eq (tgt := 48) C (by decide) dL_isCleared_43 (fun hc => absurd hc (by decide)) (fun _ => ?_)
        refine zr_iconst (v := 0) C (by decide) dL_isCleared_46 ?_
        exact zno h
    · have h := zif_f hc12 h
      refine zr_iconst (v := 1) C (by decide) dL_isCleared_29 ?_
      refine zr_goto (tgt := 34) C (by decide) dL_isCleared_30 ?_
      refine zr_iload_n C 0 rfl rfl dL_isCleared_34 ?_
      refine zr_if_le (tgt := 42) C (by decide) dL_isCleared_35 (fun hc33 => ?_) (fun hc33 => ?_)
      · have h := zif_t hc33 h
        refine zr_iconst (v := 0) C (by decide) dL_isCleared_42 ?_
        refine zr_icmp_eq (tgt := 48) C (by decide) dL_isCleared_43 (fun hc => absurd hc (by decide)) (fun _ => ?_)
        refine zr_iconst (v := 0) C (by decide) dL_isCleared_46 ?_
        exact zno h
      · have h := zif_f hc33 h
        refine zr_iconst (v := 1) C (by decide) dL_isCleared_38 ?_
        refine zr_goto (tgt := 43) C (by decide) dL_isCleared_39 ?_
        refine zr_icmp_eq (tgt := 48) C (by decide) dL_isCleared_43 (fun _ => ?_) (fun hc => absurd hc (by decide))
        refine zr_bipush (v := 10) C (by decide) dL_isCleared_48 ?_
        refine zv_newa C wd_44 (Nat.le_of_ble_eq_true rfl) (Nat.le_of_ble_eq_true rfl) dL_isCleared_50 (fun q34 => ?_)
        refine zv_widen (k := 1) (n := 10) (Nat.le_of_ble_eq_true rfl) (Nat.le_of_ble_eq_true rfl) ?_
        refine zv_astore_n (lv' := [(3, .ref q34), (2, .int r1), (0, .ref r0), (1, .int p1)]) C rfl (by decide) rfl dL_isCleared_52 ?_
        refine zv_iconst (v := 0) C (by decide) dL_isCleared_53 ?_
        refine zv_istore (lv' := [(4, .int 0), (3, .ref q34), (2, .int r1), (0, .ref r0), (1, .int p1)]) C (by decide) rfl dL_isCleared_54 ?_
        obtain ⟨i35, I36, A37, w38, h52, h⟩ := zb4_e h
        refine zv_lv (lv' := [(0, .ref r0), (1, .int p1), (2, .int r1), (3, .ref q34), (4, .int 0)]) C [3, 4, 2, 1, 0] rfl ?_
        refine w_L_isCleared_56 l D cy hZ C (Nat.le_of_ble_eq_true rfl) (Nat.le_of_ble_eq_true rfl) ⟨Nat.le_of_ble_eq_true rfl, Nat.le_of_ble_eq_true rfl⟩ r0 p1 r1 q34 k_r0  2000 (0, I, A2, (fun _ => 0)) (i35, I36, A37, w38) h52 ?_
        refine zv_aload_n C 0 rfl rfl dL_isCleared_91 ?_
        refine zv_iload_n C 1 rfl rfl dL_isCleared_92 ?_
        refine zv_iconst (v := 2) C (by decide) dL_isCleared_93 ?_
        obtain ⟨r39, h40, h⟩ := zb_e h
        refine zv_callVi (n := 2) (As := [.int p1, .int 2]) C (c_X5_ofProject l D cy hZ r0 p1 2 k_r0 I36 A37 h40) wd_499 wd_500 wd_501 wd_1 wd_502 (by decide +kernel) ⟨(Nat.le_of_ble_eq_true rfl), (Nat.le_of_ble_eq_true rfl)⟩ rfl rfl ⟨Nat.le_of_ble_eq_true rfl, Nat.le_of_ble_eq_true rfl⟩ k_r0 (by decide) rfl rfl rfl (Nat.le_of_ble_eq_true rfl) dL_isCleared_94 zE1.keep ?_
        refine zv_if_eq (tgt := 102) C (by decide) dL_isCleared_97 (fun hc42 => ?_) (fun hc42 => ?_)
        · have h := zif_t hc42 h
          refine zv_iconst (v := 0) C (by decide) dL_isCleared_102 ?_
          refine zv_istore (lv' := [(4, .int 0), (0, .ref r0), (1, .int p1), (2, .int r1), (3, .ref q34)]) C (by decide) rfl dL_isCleared_103 ?_
          obtain ⟨i43, I44, A45, h51, h⟩ := zb3_e h
          refine zv_lv (lv' := [(0, .ref r0), (1, .int p1), (2, .int r1), (3, .ref q34), (4, .int 0)]) C [1, 2, 3, 4, 0] rfl ?_
          refine w_L_isCleared_105 l D cy hZ C (Nat.le_of_ble_eq_true rfl) (Nat.le_of_ble_eq_true rfl) ⟨Nat.le_of_ble_eq_true rfl, Nat.le_of_ble_eq_true rfl⟩ r0 p1 r1 q34 w38 k_r0  2000 (0, I36, A37) (i43, I44, A45) h51 ?_
          refine zv_aload_n C 0 rfl rfl dL_isCleared_145 ?_
          refine zv_iload_n C 1 rfl rfl dL_isCleared_146 ?_
          obtain ⟨r46, A47, h48, h⟩ := zb2_e h
          refine zv_callVi (n := 1) (As := [.int p1]) C (c_X5_remedy l D cy hZ r0 p1 k_r0 I44 A45 h48) wd_570 wd_571 wd_572 wd_1 wd_573 (by decide +kernel) ⟨(Nat.le_of_ble_eq_true rfl), (Nat.le_of_ble_eq_true rfl)⟩ rfl rfl ⟨Nat.le_of_ble_eq_true rfl, Nat.le_of_ble_eq_true rfl⟩ k_r0 (by decide) rfl rfl rfl (Nat.le_of_ble_eq_true rfl) dL_isCleared_147 zE1.keep ?_
          refine zv_iload_n C 2 rfl rfl dL_isCleared_150 ?_
          refine zv_icmp_ne (tgt := 158) C (by decide) dL_isCleared_151 (fun hc50 => ?_) (fun hc50 => ?_)
          · have h := zif_f hc50 h
            refine zv_iconst (v := 0) C (by decide) dL_isCleared_158 ?_
            exact zno h
          · have h := zif_t hc50 h
            refine zv_iconst (v := 1) C (by decide) dL_isCleared_154 ?_
            refine zv_goto (tgt := 159) C (by decide) dL_isCleared_155 ?_
            cases zso h
            exact zv_zret C hr rfl dL_isCleared_159
        · have h := zif_f hc42 h
          refine zv_iconst (v := 0) C (by decide) dL_isCleared_100 ?_
          exact zno h
  · have h := zif_t hc8 h
    refine zr_iload_n C 0 rfl rfl dL_isCleared_16 ?_
    refine zr_if_ne (tgt := 46) C (by decide) dL_isCleared_17 (fun hc53 => ?_) (fun hc53 => ?_)
    · have h := zif_f hc53 h
      refine zr_iconst (v := 0) C (by decide) dL_isCleared_46 ?_
      exact zno h
    · have h := zif_t hc53 h
      refine zr_aload_n C 1 rfl rfl dL_isCleared_20 ?_
      refine zr_iload_n C 2 rfl rfl dL_isCleared_21 ?_
      refine zr_iconst (v := 2) C (by decide) dL_isCleared_22 ?_
      obtain ⟨r54, h55, h⟩ := zb_e h
      refine zr_callVi (n := 2) (As := [.int p1, .int 2]) C (c_X5_ofProject l D cy hZ r0 p1 2 k_r0 I A2 h55) wd_499 wd_500 wd_501 wd_1 wd_502 (by decide +kernel) ⟨(Nat.le_of_ble_eq_true rfl), (Nat.le_of_ble_eq_true rfl)⟩ rfl rfl ⟨Nat.le_of_ble_eq_true rfl, Nat.le_of_ble_eq_true rfl⟩ k_r0 (by decide) rfl rfl rfl (Nat.le_of_ble_eq_true rfl) dL_isCleared_23 ?_
      refine zr_if_le (tgt := 33) C (by decide) dL_isCleared_26 (fun hc57 => ?_) (fun hc57 => ?_)
      · have h := zif_t hc57 h
        refine zr_iconst (v := 0) C (by decide) dL_isCleared_33 ?_
        refine zr_iload_n C 0 rfl rfl dL_isCleared_34 ?_
        refine zr_if_le (tgt := 42) C (by decide) dL_isCleared_35 (fun hc58 => ?_) (fun hc58 => ?_)
        · have h := zif_t hc58 h
          refine zr_iconst (v := 0) C (by decide) dL_isCleared_42 ?_
          refine zr_icmp_eq (tgt := 48) C (by decide) dL_isCleared_43 (fun _ => ?_) (fun hc => absurd hc (by decide))
          refine zr_bipush (v := 10) C (by decide) dL_isCleared_48 ?_
          refine zv_newa C wd_44 (Nat.le_of_ble_eq_true rfl) (Nat.le_of_ble_eq_true rfl) dL_isCleared_50 (fun q59 => ?_)
          refine zv_widen (k := 1) (n := 10) (Nat.le_of_ble_eq_true rfl) (Nat.le_of_ble_eq_true rfl) ?_
          refine zv_astore_n (lv' := [(3, .ref q59), (2, .int r1), (0, .ref r0), (1, .int p1)]) C rfl (by decide) rfl dL_isCleared_52 ?_
          refine zv_iconst (v := 0) C (by decide) dL_isCleared_53 ?_
          refine zv_istore (lv' := [(4, .int 0), (3, .ref q59), (2, .int r1), (0, .ref r0), (1, .int p1)]) C (by decide) rfl dL_isCleared_54 ?_
          obtain ⟨i60, I61, A62, w63, h77, h⟩ := zb4_e h
          refine zv_lv (lv' := [(0, .ref r0), (1, .int p1), (2, .int r1), (3, .ref q59), (4, .int 0)]) C [3, 4, 2, 1, 0] rfl ?_
          refine w_L_isCleared_56 l D cy hZ C (Nat.le_of_ble_eq_true rfl) (Nat.le_of_ble_eq_true rfl) ⟨Nat.le_of_ble_eq_true rfl, Nat.le_of_ble_eq_true rfl⟩ r0 p1 r1 q59 k_r0  2000 (0, I, A2, (fun _ => 0)) (i60, I61, A62, w63) h77 ?_
          refine zv_aload_n C 0 rfl rfl dL_isCleared_91 ?_
          refine zv_iload_n C 1 rfl rfl dL_isCleared_92 ?_
          refine zv_iconst (v := 2) C (by decide) dL_isCleared_93 ?_
          obtain ⟨r64, h65, h⟩ := zb_e h
          refine zv_callVi (n := 2) (As := [.int p1, .int 2]) C (c_X5_ofProject l D cy hZ r0 p1 2 k_r0 I61 A62 h65) wd_499 wd_500 wd_501 wd_1 wd_502 (by decide +kernel) ⟨(Nat.le_of_ble_eq_true rfl), (Nat.le_of_ble_eq_true rfl)⟩ rfl rfl ⟨Nat.le_of_ble_eq_true rfl, Nat.le_of_ble_eq_true rfl⟩ k_r0 (by decide) rfl rfl rfl (Nat.le_of_ble_eq_true rfl) dL_isCleared_94 zE1.keep ?_
          refine zv_if_eq (tgt := 102) C (by decide) dL_isCleared_97 (fun hc67 => ?_) (fun hc67 => ?_)
          · have h := zif_t hc67 h
            refine zv_iconst (v := 0) C (by decide) dL_isCleared_102 ?_
            refine zv_istore (lv' := [(4, .int 0), (0, .ref r0), (1, .int p1), (2, .int r1), (3, .ref q59)]) C (by decide) rfl dL_isCleared_103 ?_
            obtain ⟨i68, I69, A70, h76, h⟩ := zb3_e h
            refine zv_lv (lv' := [(0, .ref r0), (1, .int p1), (2, .int r1), (3, .ref q59), (4, .int 0)]) C [1, 2, 3, 4, 0] rfl ?_
            refine w_L_isCleared_105 l D cy hZ C (Nat.le_of_ble_eq_true rfl) (Nat.le_of_ble_eq_true rfl) ⟨Nat.le_of_ble_eq_true rfl, Nat.le_of_ble_eq_true rfl⟩ r0 p1 r1 q59 w63 k_r0  2000 (0, I61, A62) (i68, I69, A70) h76 ?_
            refine zv_aload_n C 0 rfl rfl dL_isCleared_145 ?_
            refine zv_iload_n C 1 rfl rfl dL_isCleared_146 ?_
            obtain ⟨r71, A72, h73, h⟩ := zb2_e h
            refine zv_callVi (n := 1) (As := [.int p1]) C (c_X5_remedy l D cy hZ r0 p1 k_r0 I69 A70 h73) wd_570 wd_571 wd_572 wd_1 wd_573 (by decide +kernel) ⟨(Nat.le_of_ble_eq_true rfl), (Nat.le_of_ble_eq_true rfl)⟩ rfl rfl ⟨Nat.le_of_ble_eq_true rfl, Nat.le_of_ble_eq_true rfl⟩ k_r0 (by decide) rfl rfl rfl (Nat.le_of_ble_eq_true rfl) dL_isCleared_147 zE1.keep ?_
            refine zv_iload_n C 2 rfl rfl dL_isCleared_150 ?_
            refine zv_icmp_ne (tgt := 158) C (by decide) dL_isCleared_151 (fun hc75 => ?_) (fun hc75 => ?_)
            · have h := zif_f hc75 h
              refine zv_iconst (v := 0) C (by decide) dL_isCleared_158 ?_
              exact zno h
            · have h := zif_t hc75 h
              refine zv_iconst (v := 1) C (by decide) dL_isCleared_154 ?_
              refine zv_goto (tgt := 159) C (by decide) dL_isCleared_155 ?_
              cases zso h
              exact zv_zret C hr rfl dL_isCleared_159
          · have h := zif_f hc67 h
            refine zv_iconst (v := 0) C (by decide) dL_isCleared_100 ?_
            exact zno h
        · have h := zif_f hc58 h
          refine zr_iconst (v := 1) C (by decide) dL_isCleared_38 ?_
          refine zr_goto (tgt := 43) C (by decide) dL_isCleared_39 ?_
          refine zr_icmp_eq (tgt := 48) C (by decide) dL_isCleared_43 (fun hc => absurd hc (by decide)) (fun _ => ?_)
          refine zr_iconst (v := 0) C (by decide) dL_isCleared_46 ?_
          exact zno h
      · have h := zif_f hc57 h
        refine zr_iconst (v := 1) C (by decide) dL_isCleared_29 ?_
        refine zr_goto (tgt := 34) C (by decide) dL_isCleared_30 ?_
        refine zr_iload_n C 0 rfl rfl dL_isCleared_34 ?_
        refine zr_if_le (tgt := 42) C (by decide) dL_isCleared_35 (fun hc78 => ?_) (fun hc78 => ?_)
        · have h := zif_t hc78 h
          refine zr_iconst (v := 0) C (by decide) dL_isCleared_42 ?_
          refine zr_icmp_eq (tgt := 48) C (by decide) dL_isCleared_43 (fun hc => absurd hc (by decide)) (fun _ => ?_)
          refine zr_iconst (v := 0) C (by decide) dL_isCleared_46 ?_
          exact zno h
        · have h := zif_f hc78 h
          refine zr_iconst (v := 1) C (by decide) dL_isCleared_38 ?_
          refine zr_goto (tgt := 43) C (by decide) dL_isCleared_39 ?_
          refine zr_icmp_eq (tgt := 48) C (by decide) dL_isCleared_43 (fun _ => ?_) (fun hc => absurd hc (by decide))
          refine zr_bipush (v := 10) C (by decide) dL_isCleared_48 ?_
          refine zv_newa C wd_44 (Nat.le_of_ble_eq_true rfl) (Nat.le_of_ble_eq_true rfl) dL_isCleared_50 (fun q79 => ?_)
          refine zv_widen (k := 1) (n := 10) (Nat.le_of_ble_eq_true rfl) (Nat.le_of_ble_eq_true rfl) ?_
          refine zv_astore_n (lv' := [(3, .ref q79), (2, .int r1), (0, .ref r0), (1, .int p1)]) C rfl (by decide) rfl dL_isCleared_52 ?_
          refine zv_iconst (v := 0) C (by decide) dL_isCleared_53 ?_
          refine zv_istore (lv' := [(4, .int 0), (3, .ref q79), (2, .int r1), (0, .ref r0), (1, .int p1)]) C (by decide) rfl dL_isCleared_54 ?_
          obtain ⟨i80, I81, A82, w83, h97, h⟩ := zb4_e h
          refine zv_lv (lv' := [(0, .ref r0), (1, .int p1), (2, .int r1), (3, .ref q79), (4, .int 0)]) C [3, 4, 2, 1, 0] rfl ?_
          refine w_L_isCleared_56 l D cy hZ C (Nat.le_of_ble_eq_true rfl) (Nat.le_of_ble_eq_true rfl) ⟨Nat.le_of_ble_eq_true rfl, Nat.le_of_ble_eq_true rfl⟩ r0 p1 r1 q79 k_r0  2000 (0, I, A2, (fun _ => 0)) (i80, I81, A82, w83) h97 ?_
          refine zv_aload_n C 0 rfl rfl dL_isCleared_91 ?_
          refine zv_iload_n C 1 rfl rfl dL_isCleared_92 ?_
          refine zv_iconst (v := 2) C (by decide) dL_isCleared_93 ?_
          obtain ⟨r84, h85, h⟩ := zb_e h
          refine zv_callVi (n := 2) (As := [.int p1, .int 2]) C (c_X5_ofProject l D cy hZ r0 p1 2 k_r0 I81 A82 h85) wd_499 wd_500 wd_501 wd_1 wd_502 (by decide +kernel) ⟨(Nat.le_of_ble_eq_true rfl), (Nat.le_of_ble_eq_true rfl)⟩ rfl rfl ⟨Nat.le_of_ble_eq_true rfl, Nat.le_of_ble_eq_true rfl⟩ k_r0 (by decide) rfl rfl rfl (Nat.le_of_ble_eq_true rfl) dL_isCleared_94 zE1.keep ?_
          refine zv_if_eq (tgt := 102) C (by decide) dL_isCleared_97 (fun hc87 => ?_) (fun hc87 => ?_)
          · have h := zif_t hc87 h
            refine zv_iconst (v := 0) C (by decide) dL_isCleared_102 ?_
            refine zv_istore (lv' := [(4, .int 0), (0, .ref r0), (1, .int p1), (2, .int r1), (3, .ref q79)]) C (by decide) rfl dL_isCleared_103 ?_
            obtain ⟨i88, I89, A90, h96, h⟩ := zb3_e h
            refine zv_lv (lv' := [(0, .ref r0), (1, .int p1), (2, .int r1), (3, .ref q79), (4, .int 0)]) C [1, 2, 3, 4, 0] rfl ?_
            refine w_L_isCleared_105 l D cy hZ C (Nat.le_of_ble_eq_true rfl) (Nat.le_of_ble_eq_true rfl) ⟨Nat.le_of_ble_eq_true rfl, Nat.le_of_ble_eq_true rfl⟩ r0 p1 r1 q79 w83 k_r0  2000 (0, I81, A82) (i88, I89, A90) h96 ?_
            refine zv_aload_n C 0 rfl rfl dL_isCleared_145 ?_
            refine zv_iload_n C 1 rfl rfl dL_isCleared_146 ?_
            obtain ⟨r91, A92, h93, h⟩ := zb2_e h
            refine zv_callVi (n := 1) (As := [.int p1]) C (c_X5_remedy l D cy hZ r0 p1 k_r0 I89 A90 h93) wd_570 wd_571 wd_572 wd_1 wd_573 (by decide +kernel) ⟨(Nat.le_of_ble_eq_true rfl), (Nat.le_of_ble_eq_true rfl)⟩ rfl rfl ⟨Nat.le_of_ble_eq_true rfl, Nat.le_of_ble_eq_true rfl⟩ k_r0 (by decide) rfl rfl rfl (Nat.le_of_ble_eq_true rfl) dL_isCleared_147 zE1.keep ?_
            refine zv_iload_n C 2 rfl rfl dL_isCleared_150 ?_
            refine zv_icmp_ne (tgt := 158) C (by decide) dL_isCleared_151 (fun hc95 => ?_) (fun hc95 => ?_)
            · have h := zif_f hc95 h
              refine zv_iconst (v := 0) C (by decide) dL_isCleared_158 ?_
              exact zno h
            · have h := zif_t hc95 h
              refine zv_iconst (v := 1) C (by decide) dL_isCleared_154 ?_
              refine zv_goto (tgt := 159) C (by decide) dL_isCleared_155 ?_
              cases zso h
              exact zv_zret C hr rfl dL_isCleared_159
          · have h := zif_f hc87 h
            refine zv_iconst (v := 0) C (by decide) dL_isCleared_100 ?_
            exact zno h

