def g_L_law_673 (F G : Nat → Nat → Nat) (Ln : Nat) (xs : Nat → Int32) (v1 : Nat) (v2 : Int32) (v8 : Int32) (I : zH) (A : zH) : Option ((Int32) ⊕ (Int32)) :=
  if 2 ≤ v8 then (
    some (.inr v8)
  ) else (
    zb (f_X5_ofProject F G v1 v8 0 I A) fun r2 =>
    if r2 = 1 then (
      zb (f_X5_ofProject F G v1 v8 2 I A) fun r6 =>
      zb (f_X5_ofProject F G v1 v8 3 I A) fun r9 =>
      if (r6 + r9) ≤ 0 then (
        some (.inl (v8 + 1))
      ) else (
        none
      )
    ) else (
      some (.inl (v8 + 1))
    )
  )
set_option maxHeartbeats 4000000 in
set_option maxRecDepth 100000 in
theorem wb_L_law_673 (l : Launch) (D : va_G) (cy : Nat → ClassId) {L : List Nat} {K N : Nat → Nat} {F G : Nat → Nat → Nat} (hZ : ZL L K N F G) {p : Program} {e : Env} {R : Room} {s : State} {m : MethodId} {args : Array Value} {below : List Frame} {meth : Method} {c : Code} {cells slots : Nat} {Q : State → Prop} (C : ZC p s m args meth c cL_law yL_law.cls 17 D cy L K N F G) (hRf : 4 ≤ R.frames) (hRl : 97 ≤ R.locals) (hRc : cells ≤ R.cells ∧ slots ≤ R.slots)  (Ln : Nat) (xs : Nat → Int32) (v0 : Nat) (v1 : Nat) (v2 : Int32) (hX : va_X v0 Ln xs s s.heap) (hXb : v0 < s.heap.size) (hXL : v0 ∉ L) (k1 : K v1 = 5) (I : zH) (A : zH) (v8 : Int32) (o : (Int32) ⊕ (Int32)) (h : g_L_law_673 F G Ln xs v1 v2 v8 I A = some o)
    (hg : ∀ y : Int32, o = .inl y → ZW p l e R s m args below meth c 17 D cy L K N F G cells slots Q I A 673 [(0, .ref v0), (1, .ref v1), (2, .int v2), (8, .int y)] [])
    (hx : ∀ y : Int32, o = .inr y → ZW p l e R s m args below meth c 17 D cy L K N F G cells slots Q I A 716 [(0, .ref v0), (1, .ref v1), (2, .int v2), (8, .int y)] []) : ZW p l e R s m args below meth c 17 D cy L K N F G cells slots Q I A 673 [(0, .ref v0), (1, .ref v1), (2, .int v2), (8, .int v8)] [] := by
  unfold g_L_law_673 at h
  refine zr_iload C 3 rfl dL_law_673 ?_
  refine zr_iconst (v := 2) C (by decide) dL_law_675 ?_
  refine zr_icmp_ge (tgt := 716) C (by decide) dL_law_676 (fun hc1 => ?_) (fun hc1 => ?_)
  · have h := zif_t hc1 h
    obtain rfl := zso h
    refine zr_lv (lv' := [(0, .ref v0), (1, .ref v1), (2, .int v2), (8, .int v8)]) C [0, 1, 2, 3] rfl ?_
    exact hx _ rfl
  · have h := zif_f hc1 h
    refine zr_aload_n C 1 rfl rfl dL_law_679 ?_
    refine zr_iload C 3 rfl dL_law_680 ?_
    refine zr_iconst (v := 0) C (by decide) dL_law_682 ?_
    obtain ⟨r2, h3, h⟩ := zb_e h
    refine zr_callVi (n := 2) (As := [.int v8, .int 0]) C (c_X5_ofProject l D cy hZ v1 v8 0 k1 I A h3) wd_499 wd_500 wd_501 wd_1 wd_502 (by decide +kernel) ⟨(Nat.le_trans (Nat.le_of_ble_eq_true rfl) hRf), (Nat.le_trans (Nat.le_of_ble_eq_true rfl) hRl)⟩ rfl rfl hRc k1 (by decide) rfl rfl rfl (Nat.le_of_ble_eq_true rfl) dL_law_683 ?_
    refine zr_iconst (v := 1) C (by decide) dL_law_686 ?_
    refine zr_icmp_ne (tgt := 710) C (by decide) dL_law_687 (fun hc5 => ?_) (fun hc5 => ?_)
    · have h := zif_f hc5 h
      refine zr_iinc (v := v8 + 1) (lv' := [(8, .int (v8 + 1)), (0, .ref v0), (1, .ref v1), (2, .int v2)]) C 3 rfl rfl (by decide) rfl dL_law_710 ?_
      refine zr_goto (tgt := 673) C (by decide) dL_law_713 ?_
      obtain rfl := zso h
      refine zr_lv (lv' := [(0, .ref v0), (1, .ref v1), (2, .int v2), (8, .int (v8 + 1))]) C [1, 2, 3, 0] rfl ?_
      exact hg _ rfl
    · have h := zif_t hc5 h
      refine zr_aload_n C 1 rfl rfl dL_law_690 ?_
      refine zr_iload C 3 rfl dL_law_691 ?_
      refine zr_iconst (v := 2) C (by decide) dL_law_693 ?_
      obtain ⟨r6, h7, h⟩ := zb_e h
      refine zr_callVi (n := 2) (As := [.int v8, .int 2]) C (c_X5_ofProject l D cy hZ v1 v8 2 k1 I A h7) wd_499 wd_500 wd_501 wd_1 wd_502 (by decide +kernel) ⟨(Nat.le_trans (Nat.le_of_ble_eq_true rfl) hRf), (Nat.le_trans (Nat.le_of_ble_eq_true rfl) hRl)⟩ rfl rfl hRc k1 (by decide) rfl rfl rfl (Nat.le_of_ble_eq_true rfl) dL_law_694 ?_
      refine zr_aload_n C 1 rfl rfl dL_law_697 ?_
      refine zr_iload C 3 rfl dL_law_698 ?_
      refine zr_iconst (v := 3) C (by decide) dL_law_700 ?_
      obtain ⟨r9, h10, h⟩ := zb_e h
      refine zr_callVi (n := 2) (As := [.int v8, .int 3]) C (c_X5_ofProject l D cy hZ v1 v8 3 k1 I A h10) wd_499 wd_500 wd_501 wd_1 wd_502 (by decide +kernel) ⟨(Nat.le_trans (Nat.le_of_ble_eq_true rfl) hRf), (Nat.le_trans (Nat.le_of_ble_eq_true rfl) hRl)⟩ rfl rfl hRc k1 (by decide) rfl rfl rfl (Nat.le_of_ble_eq_true rfl) dL_law_701 ?_
      refine zr_iadd C dL_law_704 ?_
      refine zr_if_le (tgt := 710) C (by decide) dL_law_705 (fun hc12 => ?_) (fun hc12 => ?_)
      · have h := zif_t hc12 h
        refine zr_iinc (v := v8 + 1) (lv' := [(8, .int (v8 + 1)), (0, .ref v0), (1, .ref v1), (2, .int v2)]) C 3 rfl rfl (by decide) rfl dL_law_710 ?_
        refine zr_goto (tgt := 673) C (by decide) dL_law_713 ?_
        obtain rfl := zso h
        refine zr_lv (lv' := [(0, .ref v0), (1, .ref v1), (2, .int v2), (8, .int (v8 + 1))]) C [1, 2, 3, 0] rfl ?_
        exact hg _ rfl
      · have h := zif_f hc12 h
        refine zr_iconst (v := 0) C (by decide) dL_law_708 ?_
        exact zno h
set_option maxHeartbeats 4000000 in
set_option maxRecDepth 100000 in
theorem w_L_law_673 (l : Launch) (D : va_G) (cy : Nat → ClassId) {L : List Nat} {K N : Nat → Nat} {F G : Nat → Nat → Nat} (hZ : ZL L K N F G) {p : Program} {e : Env} {R : Room} {s : State} {m : MethodId} {args : Array Value} {below : List Frame} {meth : Method} {c : Code} {cells slots : Nat} {Q : State → Prop} (C : ZC p s m args meth c cL_law yL_law.cls 17 D cy L K N F G) (hRf : 4 ≤ R.frames) (hRl : 97 ≤ R.locals) (hRc : cells ≤ R.cells ∧ slots ≤ R.slots)  (Ln : Nat) (xs : Nat → Int32) (v0 : Nat) (v1 : Nat) (v2 : Int32) (hX : va_X v0 Ln xs s s.heap) (hXb : v0 < s.heap.size) (hXL : v0 ∉ L) (k1 : K v1 = 5) (I : zH) (A : zH) (n : Nat) (x : Int32) (o : Int32) (h : zIt (fun x => g_L_law_673 F G Ln xs v1 v2 x I A) n x = some o)
    (hx : ZW p l e R s m args below meth c 17 D cy L K N F G cells slots Q I A 716 [(0, .ref v0), (1, .ref v1), (2, .int v2), (8, .int o)] []) : ZW p l e R s m args below meth c 17 D cy L K N F G cells slots Q I A 673 [(0, .ref v0), (1, .ref v1), (2, .int v2), (8, .int x)] [] := by
  induction n generalizing x with
  | zero => cases h
  | succ n ih =>
    unfold zIt at h
    cases hb : g_L_law_673 F G Ln xs v1 v2 x I A with
    | none => rw [hb] at h; cases h
    | some q =>
      rw [hb] at h
      refine wb_L_law_673 l D cy hZ C hRf hRl hRc Ln xs v0 v1 v2 hX hXb hXL k1 I A x q hb (fun y hy => ?_) (fun y hy => ?_)
      · subst hy; exact ih y h
      · subst hy; cases h; exact hx

def j_L_law_670 (F G : Nat → Nat → Nat) (Ln : Nat) (xs : Nat → Int32) (v1 : Nat) (v2 : Int32) (I A : zH) : Option ((Int32 × zH × zH) ⊕ (Int32 × zH × zH)) :=
  zb (zIt (fun x => g_L_law_673 F G Ln xs v1 v2 x I A) 2000 0) fun i1 =>
  some (.inl (v2 + 1, I, A))
set_option maxHeartbeats 4000000 in
set_option maxRecDepth 100000 in
theorem wj_L_law_670 (l : Launch) (D : va_G) (cy : Nat → ClassId) {L : List Nat} {K N : Nat → Nat} {F G : Nat → Nat → Nat} (hZ : ZL L K N F G) {p : Program} {e : Env} {R : Room} {s : State} {m : MethodId} {args : Array Value} {below : List Frame} {meth : Method} {c : Code} {cells slots : Nat} {Q : State → Prop} (C : ZC p s m args meth c cL_law RL 17 D cy L K N F G) (hRf : 8 ≤ R.frames) (hRl : 187 ≤ R.locals) (hRc : cells ≤ R.cells ∧ slots ≤ R.slots) (hRg : cells + 1 ≤ R.cells ∧ slots + 10 ≤ R.slots) (Ln : Nat) (xs : Nat → Int32) (v0 v1 : Nat) (hX : va_X v0 Ln xs s s.heap) (hXb : v0 < s.heap.size) (hXL : v0 ∉ L) (k1 : K v1 = 5) (v2 : Int32) (I A : zH) (o : (Int32 × zH × zH) ⊕ (Int32 × zH × zH)) (h : j_L_law_670 F G Ln xs v1 v2 I A = some o)
    (hg : ∀ y : Int32 × zH × zH, o = .inl y → ZW p l e R s m args below meth c 17 D cy L K N F G (cells + 1) (slots + 10) Q y.2.1 y.2.2 133 [(0, .ref v0), (1, .ref v1), (2, .int y.1)] []) : ZW p l e R s m args below meth c 17 D cy L K N F G (cells + 1) (slots + 10) Q I A 670 [(0, .ref v0), (1, .ref v1), (2, .int v2)] [] := by
  unfold j_L_law_670 at h
  refine zr_iconst (v := 0) C (by decide) dL_law_670 ?_
  refine zr_istore (lv' := [(8, .int 0), (0, .ref v0), (1, .ref v1), (2, .int v2)]) C (by decide) rfl dL_law_671 ?_
  obtain ⟨i1, h2, h⟩ := zb_e h
  refine zr_lv (lv' := [(0, .ref v0), (1, .ref v1), (2, .int v2), (8, .int 0)]) C [1, 2, 3, 0] rfl ?_
  refine w_L_law_673 l D cy hZ C (Nat.le_trans (Nat.le_of_ble_eq_true rfl) hRf) (Nat.le_trans (Nat.le_of_ble_eq_true rfl) hRl) hRg Ln xs v0 v1 v2 hX hXb hXL k1 I A 2000 0 i1 h2 ?_
  refine zr_iinc (v := v2 + 1) (lv' := [(2, .int (v2 + 1)), (0, .ref v0), (1, .ref v1), (8, .int i1)]) C 2 rfl rfl (by decide) rfl dL_law_716 ?_
  refine zr_goto (tgt := 133) C (by decide) dL_law_719 ?_
  obtain rfl := zso h
  refine zr_lv (lv' := [(0, .ref v0), (1, .ref v1), (2, .int (v2 + 1))]) C [1, 2, 0] rfl ?_
  exact hg _ rfl
def j_L_law_264 (F G : Nat → Nat → Nat) (Ln : Nat) (xs : Nat → Int32) (v1 : Nat) (v2 : Int32) (v3 : Int32) (v4 : Int32) (v5 : Int32) (I A : zH) : Option ((Int32 × zH × zH) ⊕ (Int32 × zH × zH)) :=
  if v4 = 16 then (
    j_L_law_670 F G Ln xs v1 v2 I A
  ) else (
    zb3 (f_L_isWritten F G v1 v5 (v3 >>> (3 &&& 31)) I A) fun r2 I3 A4 =>
    if r2 = 0 then (
      none
    ) else (
      zb3 (f_X5_keep F G v1 I3 A4) fun r8 I9 A10 =>
      if r8 = v4 then (
        j_L_law_670 F G Ln xs v1 v2 I9 A10
      ) else (
        none
      )
    )
  )
set_option maxHeartbeats 4000000 in
set_option maxRecDepth 100000 in
theorem wj_L_law_264 (l : Launch) (D : va_G) (cy : Nat → ClassId) {L : List Nat} {K N : Nat → Nat} {F G : Nat → Nat → Nat} (hZ : ZL L K N F G) {p : Program} {e : Env} {R : Room} {s : State} {m : MethodId} {args : Array Value} {below : List Frame} {meth : Method} {c : Code} {cells slots : Nat} {Q : State → Prop} (C : ZC p s m args meth c cL_law RL 17 D cy L K N F G) (hRf : 8 ≤ R.frames) (hRl : 187 ≤ R.locals) (hRc : cells ≤ R.cells ∧ slots ≤ R.slots) (hRg : cells + 1 ≤ R.cells ∧ slots + 10 ≤ R.slots) (Ln : Nat) (xs : Nat → Int32) (v0 v1 : Nat) (hX : va_X v0 Ln xs s s.heap) (hXb : v0 < s.heap.size) (hXL : v0 ∉ L) (k1 : K v1 = 5) (v2 : Int32) (v3 : Int32) (v4 : Int32) (v5 : Int32) (I A : zH) (o : (Int32 × zH × zH) ⊕ (Int32 × zH × zH)) (h : j_L_law_264 F G Ln xs v1 v2 v3 v4 v5 I A = some o)
    (hg : ∀ y : Int32 × zH × zH, o = .inl y → ZW p l e R s m args below meth c 17 D cy L K N F G (cells + 1) (slots + 10) Q y.2.1 y.2.2 133 [(0, .ref v0), (1, .ref v1), (2, .int y.1)] []) (hx : ∀ y : Int32 × zH × zH, o = .inr y → ZW p l e R s m args below meth c 17 D cy L K N F G cells slots Q y.2.1 y.2.2 722 [(0, .ref v0), (1, .ref v1), (2, .int y.1)] []) : ZW p l e R s m args below meth c 17 D cy L K N F G cells slots Q I A 264 [(0, .ref v0), (1, .ref v1), (2, .int v2), (3, .int v3), (4, .int v4), (5, .int v5)] [] := by
  unfold j_L_law_264 at h
  refine zr_iload C 4 rfl dL_law_264 ?_
  refine zr_bipush (v := 16) C (by decide) dL_law_266 ?_
  refine zr_icmp_ne (tgt := 274) C (by decide) dL_law_268 (fun hc1 => ?_) (fun hc1 => ?_)
  · have h := zif_f hc1 h
    refine zr_aload_n C 1 rfl rfl dL_law_274 ?_
    refine zr_iload C 5 rfl dL_law_275 ?_
    refine zr_iload_n C 3 rfl rfl dL_law_277 ?_
    refine zr_iconst (v := 3) C (by decide) dL_law_278 ?_
    refine zr_ishr C dL_law_279 ?_
    obtain ⟨r2, I3, A4, h5, h⟩ := zb3_e h
    refine zr_callSi (n := 3) (As := [.ref v1, .int v5, .int (v3 >>> (3 &&& 31))]) C (c_L_isWritten l D cy hZ v1 v5 (v3 >>> (3 &&& 31)) k1 I A h5) wd_536 wd_537 wd_0 wd_538 (by decide +kernel) ⟨(Nat.le_trans (Nat.le_of_ble_eq_true rfl) hRf), (Nat.le_trans (Nat.le_of_ble_eq_true rfl) hRl)⟩ rfl rfl hRc rfl rfl (Nat.le_of_ble_eq_true rfl) dL_law_280 ?_
    refine zr_if_eq (tgt := 295) C (by decide) dL_law_283 (fun hc7 => ?_) (fun hc7 => ?_)
    · have h := zif_t hc7 h
      refine zr_iconst (v := 0) C (by decide) dL_law_295 ?_
      exact zno h
    · have h := zif_f hc7 h
      refine zr_aload_n C 1 rfl rfl dL_law_286 ?_
      obtain ⟨r8, I9, A10, h11, h⟩ := zb3_e h
      refine zr_callVi (n := 0) (As := []) C (c_X5_keep l D cy hZ v1 k1 I3 A4 h11) wd_198 wd_199 wd_200 wd_1 wd_201 (by decide +kernel) ⟨(Nat.le_trans (Nat.le_of_ble_eq_true rfl) hRf), (Nat.le_trans (Nat.le_of_ble_eq_true rfl) hRl)⟩ rfl rfl hRc k1 (by decide) rfl rfl rfl (Nat.le_of_ble_eq_true rfl) dL_law_287 ?_
      refine zr_iload C 4 rfl dL_law_290 ?_
      refine zr_icmp_eq (tgt := 670) C (by decide) dL_law_292 (fun hc13 => ?_) (fun hc13 => ?_)
      · have h := zif_t hc13 h
        refine zr_lv (lv' := [(0, .ref v0), (1, .ref v1), (2, .int v2)]) C [0, 1, 2] rfl ?_
        refine zw_widen (k := cells + 1) (n := slots + 10) (Nat.le_succ _) (Nat.le_add_right _ _) ?_
        exact wj_L_law_670 l D cy hZ C hRf hRl hRc hRg Ln xs v0 v1 hX hXb hXL k1 v2 I9 A10 o h hg
      · have h := zif_f hc13 h
        refine zr_iconst (v := 0) C (by decide) dL_law_295 ?_
        exact zno h
  · have h := zif_t hc1 h
    refine zr_goto (tgt := 670) C (by decide) dL_law_271 ?_
    refine zr_lv (lv' := [(0, .ref v0), (1, .ref v1), (2, .int v2)]) C [0, 1, 2] rfl ?_
    refine zw_widen (k := cells + 1) (n := slots + 10) (Nat.le_succ _) (Nat.le_add_right _ _) ?_
    exact wj_L_law_670 l D cy hZ C hRf hRl hRc hRg Ln xs v0 v1 hX hXb hXL k1 v2 I A o h hg
def j_L_law_186 (F G : Nat → Nat → Nat) (Ln : Nat) (xs : Nat → Int32) (v1 : Nat) (v2 : Int32) (v3 : Int32) (v4 : Int32) (v5 : Int32) (I A : zH) : Option ((Int32 × zH × zH) ⊕ (Int32 × zH × zH)) :=
  zb (f_L_below F G (v3 >>> (2 &&& 31)) 2 I A) fun r1 =>
  zb (f_L_below F G (v3 >>> (6 &&& 31)) 4 I A) fun r4 =>
  if 3 ≤ v4 then (
    zb (f_L_below F G v3 8 I A) fun r8 =>
    if r8 = 0 then (
      j_L_law_264 F G Ln xs v1 v2 v3 v4 v5 I A
    ) else (
    if r8 = 1 then (
      j_L_law_264 F G Ln xs v1 v2 v3 v4 v5 I A
    ) else (
    if r8 = 2 then (
      zb2 (f_X5_recalledBy F G v1 v5 r4 I A) fun r14 A15 =>
      zb (f_X5_ofProject F G v1 0 5 I A15) fun r18 =>
      zb (f_X5_ofProject F G v1 1 5 I A15) fun r21 =>
      zb3 (f_X5_tell F G v1 v5 r4 I A15) fun r24 I25 A26 =>
      zb (f_J6_bitCount_0f7a4 F G r14 I25 A26) fun r29 =>
      if r24 = r29 then (
        zb (f_X5_ofProject F G v1 0 5 I25 A26) fun r33 =>
        zb (f_X5_ofProject F G v1 1 5 I25 A26) fun r36 =>
        zb (f_J6_bitCount_0f7a4 F G r14 I25 A26) fun r39 =>
        if (r33 + r36) = ((r18 + r21) + r39) then (
          zb (f_X5_ofPiece F G v1 v5 2 I25 A26) fun r43 =>
          if r43 = r4 then (
            j_L_law_670 F G Ln xs v1 v2 I25 A26
          ) else (
            none
          )
        ) else (
          none
        )
      ) else (
        none
      )
    ) else (
    if r8 = 3 then (
      zb (f_X5_ofPiece F G v1 v5 3 I A) fun r48 =>
      if ((r48 >>> (r4 &&& 31)) &&& 1) = 0 then (
        j_L_law_670 F G Ln xs v1 v2 I A
      ) else (
        zb (f_X5_ofLicence F G v1 r4 3 I A) fun r52 =>
        zb3 (f_X5_ask F G v1 v5 r4 I A) fun r55 I56 A57 =>
        if r52 ≤ 0 then (
          if r55 = 0 then (
            if r52 ≤ 0 then (
              j_L_law_670 F G Ln xs v1 v2 I56 A57
            ) else (
              zb (f_X5_ofPiece F G v1 v5 3 I56 A57) fun r63 =>
              if ((r63 >>> (r4 &&& 31)) &&& 1) = 1 then (
                none
              ) else (
                j_L_law_670 F G Ln xs v1 v2 I56 A57
              )
            )
          ) else (
            none
          )
        ) else (
          if r55 = 1 then (
            if r52 ≤ 0 then (
              j_L_law_670 F G Ln xs v1 v2 I56 A57
            ) else (
              zb (f_X5_ofPiece F G v1 v5 3 I56 A57) fun r69 =>
              if ((r69 >>> (r4 &&& 31)) &&& 1) = 1 then (
                none
              ) else (
                j_L_law_670 F G Ln xs v1 v2 I56 A57
              )
            )
          ) else (
            none
          )
        )
      )
    ) else (
    if r8 = 4 then (
      zb (f_X5_ofProject F G v1 r1 1 I A) fun r74 =>
      zb (f_L_below F G (v3 >>> (4 &&& 31)) 10 I A) fun r77 =>
      if 10 ≤ r74 then (
        j_L_law_670 F G Ln xs v1 v2 I A
      ) else (
        zb (f_X5_ofProject F G v1 r1 6 I A) fun r81 =>
        if ((r81 >>> (r77 &&& 31)) &&& 1) = 1 then (
          zb3 (f_X5_node F G v1 r1 r77 v5 I A) fun r85 I86 A87 =>
          if r85 < 0 then (
            none
          ) else (
            zb (f_X5_ofProject F G v1 r1 1 I86 A87) fun r91 =>
            if r91 = (r74 + 1) then (
              j_L_law_670 F G Ln xs v1 v2 I86 A87
            ) else (
              none
            )
          )
        ) else (
          j_L_law_670 F G Ln xs v1 v2 I A
        )
      )
    ) else (
    if r8 = 5 then (
      zb (f_L_below F G (v3 >>> (4 &&& 31)) 5 I A) fun r96 =>
      zb (f_X5_ofProject F G v1 r1 4 I A) fun r99 =>
      if ((r99 >>> (r96 &&& 31)) &&& 1) = 1 then (
        zb3 (f_X5_notice F G v1 r1 r96 1 I A) fun r113 I114 A115 =>
        if r113 = 1 then (
          zb (f_X5_ofProject F G v1 r1 3 I114 A115) fun r119 =>
          if ((r119 >>> (r96 &&& 31)) &&& 1) = 1 then (
            none
          ) else (
            j_L_law_670 F G Ln xs v1 v2 I114 A115
          )
        ) else (
          none
        )
      ) else (
        zb3 (f_X5_notice F G v1 r1 r96 1 I A) fun r103 I104 A105 =>
        if r103 = 0 then (
          zb (f_X5_ofProject F G v1 r1 3 I104 A105) fun r109 =>
          if ((r109 >>> (r96 &&& 31)) &&& 1) = 1 then (
            none
          ) else (
            j_L_law_670 F G Ln xs v1 v2 I104 A105
          )
        ) else (
          none
        )
      )
    ) else (
    if r8 = 6 then (
      zb (f_X5_ofProject F G v1 r1 0 I A) fun r124 =>
      if r124 = 1 then (
        j_L_law_670 F G Ln xs v1 v2 I A
      ) else (
        zb (f_X5_ofProject F G v1 r1 2 I A) fun r128 =>
        if r128 = 0 then (
          zb (f_X5_ofProject F G v1 r1 3 I A) fun r132 =>
          if r132 = 0 then (
            zb2 (f_X5_ship F G v1 r1 I A) fun r136 I137 =>
            zb (f_X5_ofProject F G v1 r1 5 I137 A) fun r140 =>
            if r136 = r140 then (
              zb (f_X5_ofProject F G v1 r1 0 I137 A) fun r144 =>
              if r144 = 1 then (
                j_L_law_670 F G Ln xs v1 v2 I137 A
              ) else (
                none
              )
            ) else (
              none
            )
          ) else (
            j_L_law_670 F G Ln xs v1 v2 I A
          )
        ) else (
          j_L_law_670 F G Ln xs v1 v2 I A
        )
      )
    ) else (
      zb3 (f_L_isCleared F G v1 r1 I A) fun r148 I149 A150 =>
      if r148 = 0 then (
        none
      ) else (
        j_L_law_670 F G Ln xs v1 v2 I149 A150
      )
    )))))))
  ) else (
    j_L_law_264 F G Ln xs v1 v2 v3 v4 v5 I A
  )
set_option maxHeartbeats 4000000 in
set_option maxRecDepth 100000 in
theorem wj_L_law_186 (l : Launch) (D : va_G) (cy : Nat → ClassId) {L : List Nat} {K N : Nat → Nat} {F G : Nat → Nat → Nat} (hZ : ZL L K N F G) {p : Program} {e : Env} {R : Room} {s : State} {m : MethodId} {args : Array Value} {below : List Frame} {meth : Method} {c : Code} {cells slots : Nat} {Q : State → Prop} (C : ZC p s m args meth c cL_law RL 17 D cy L K N F G) (hRf : 8 ≤ R.frames) (hRl : 187 ≤ R.locals) (hRc : cells ≤ R.cells ∧ slots ≤ R.slots) (hRg : cells + 1 ≤ R.cells ∧ slots + 10 ≤ R.slots) (Ln : Nat) (xs : Nat → Int32) (v0 v1 : Nat) (hX : va_X v0 Ln xs s s.heap) (hXb : v0 < s.heap.size) (hXL : v0 ∉ L) (k1 : K v1 = 5) (v2 : Int32) (v3 : Int32) (v4 : Int32) (v5 : Int32) (I A : zH) (o : (Int32 × zH × zH) ⊕ (Int32 × zH × zH)) (h : j_L_law_186 F G Ln xs v1 v2 v3 v4 v5 I A = some o)
    (hg : ∀ y : Int32 × zH × zH, o = .inl y → ZW p l e R s m args below meth c 17 D cy L K N F G (cells + 1) (slots + 10) Q y.2.1 y.2.2 133 [(0, .ref v0), (1, .ref v1), (2, .int y.1)] []) (hx : ∀ y : Int32 × zH × zH, o = .inr y → ZW p l e R s m args below meth c 17 D cy L K N F G cells slots Q y.2.1 y.2.2 722 [(0, .ref v0), (1, .ref v1), (2, .int y.1)] []) : ZW p l e R s m args below meth c 17 D cy L K N F G cells slots Q I A 186 [(0, .ref v0), (1, .ref v1), (2, .int v2), (3, .int v3), (4, .int v4), (5, .int v5)] [] := by
  unfold j_L_law_186 at h
  refine zr_iload_n C 3 rfl rfl dL_law_186 ?_
  refine zr_iconst (v := 2) C (by decide) dL_law_187 ?_
  refine zr_ishr C dL_law_188 ?_
  refine zr_iconst (v := 2) C (by decide) dL_law_189 ?_
  obtain ⟨r1, h2, h⟩ := zb_e h
  refine zr_callSi (n := 2) (As := [.int (v3 >>> (2 &&& 31)), .int 2]) C (c_L_below l D cy hZ (v3 >>> (2 &&& 31)) 2 I A h2) wd_528 wd_529 wd_0 wd_530 (by decide +kernel) ⟨(Nat.le_trans (Nat.le_of_ble_eq_true rfl) hRf), (Nat.le_trans (Nat.le_of_ble_eq_true rfl) hRl)⟩ rfl rfl hRc rfl rfl (Nat.le_of_ble_eq_true rfl) dL_law_190 ?_
  refine zr_istore (lv' := [(6, .int r1), (0, .ref v0), (1, .ref v1), (2, .int v2), (3, .int v3), (4, .int v4), (5, .int v5)]) C (by decide) rfl dL_law_193 ?_
  refine zr_iload_n C 4 rfl rfl dL_law_195 ?_
  refine zr_bipush (v := 6) C (by decide) dL_law_196 ?_
  refine zr_ishr C dL_law_198 ?_
  refine zr_iconst (v := 4) C (by decide) dL_law_199 ?_
  obtain ⟨r4, h5, h⟩ := zb_e h
  refine zr_callSi (n := 2) (As := [.int (v3 >>> (6 &&& 31)), .int 4]) C (c_L_below l D cy hZ (v3 >>> (6 &&& 31)) 4 I A h5) wd_528 wd_529 wd_0 wd_530 (by decide +kernel) ⟨(Nat.le_trans (Nat.le_of_ble_eq_true rfl) hRf), (Nat.le_trans (Nat.le_of_ble_eq_true rfl) hRl)⟩ rfl rfl hRc rfl rfl (Nat.le_of_ble_eq_true rfl) dL_law_200 ?_
  refine zr_istore (lv' := [(7, .int r4), (6, .int r1), (0, .ref v0), (1, .ref v1), (2, .int v2), (3, .int v3), (4, .int v4), (5, .int v5)]) C (by decide) rfl dL_law_203 ?_
  refine zr_iload C 6 rfl dL_law_205 ?_
  refine zr_iconst (v := 3) C (by decide) dL_law_207 ?_
  refine zr_icmp_ge (tgt := 215) C (by decide) dL_law_208 (fun hc7 => ?_) (fun hc7 => ?_)
  · have h := zif_t hc7 h
    refine zr_iload_n C 5 rfl rfl dL_law_215 ?_
    refine zr_bipush (v := 8) C (by decide) dL_law_216 ?_
    obtain ⟨r8, h9, h⟩ := zb_e h
    refine zr_callSi (n := 2) (As := [.int v3, .int 8]) C (c_L_below l D cy hZ v3 8 I A h9) wd_528 wd_529 wd_0 wd_530 (by decide +kernel) ⟨(Nat.le_trans (Nat.le_of_ble_eq_true rfl) hRf), (Nat.le_trans (Nat.le_of_ble_eq_true rfl) hRl)⟩ rfl rfl hRc rfl rfl (Nat.le_of_ble_eq_true rfl) dL_law_218 ?_
    by_cases hc11 : r8 = 0
    · have h := zif_t hc11 h
      refine zr_tableIn (off := 43) (tgt := 264) C (by rw [hc11]; decide) (by rw [hc11]; decide) (by rw [hc11]; decide) (by decide) dL_law_221 ?_
      refine zr_lv (lv' := [(0, .ref v0), (1, .ref v1), (2, .int v2), (3, .int v3), (4, .int v4), (5, .int v5)]) C [2, 3, 4, 5, 6, 7] rfl ?_
      exact wj_L_law_264 l D cy hZ C hRf hRl hRc hRg Ln xs v0 v1 hX hXb hXL k1 v2 v3 v4 v5 I A o h hg hx
    have h := zif_f hc11 h
    by_cases hc12 : r8 = 1
    · have h := zif_t hc12 h
      refine zr_tableIn (off := 43) (tgt := 264) C (by rw [hc12]; decide) (by rw [hc12]; decide) (by rw [hc12]; decide) (by decide) dL_law_221 ?_
      refine zr_lv (lv' := [(0, .ref v0), (1, .ref v1), (2, .int v2), (3, .int v3), (4, .int v4), (5, .int v5)]) C [2, 3, 4, 5, 6, 7] rfl ?_
      exact wj_L_law_264 l D cy hZ C hRf hRl hRc hRg Ln xs v0 v1 hX hXb hXL k1 v2 v3 v4 v5 I A o h hg hx
    have h := zif_f hc12 h
    by_cases hc13 : r8 = 2
    · have h := zif_t hc13 h
      refine zr_tableIn (off := 76) (tgt := 297) C (by rw [hc13]; decide) (by rw [hc13]; decide) (by rw [hc13]; decide) (by decide) dL_law_221 ?_
      refine zr_aload_n C 3 rfl rfl dL_law_297 ?_
      refine zr_iload C 7 rfl dL_law_298 ?_
      refine zr_iload C 0 rfl dL_law_300 ?_
      obtain ⟨r14, A15, h16, h⟩ := zb2_e h
      refine zr_callVi (n := 2) (As := [.int v5, .int r4]) C (c_X5_recalledBy l D cy hZ v1 v5 r4 k1 I A h16) wd_524 wd_525 wd_526 wd_1 wd_527 (by decide +kernel) ⟨(Nat.le_trans (Nat.le_of_ble_eq_true rfl) hRf), (Nat.le_trans (Nat.le_of_ble_eq_true rfl) hRl)⟩ rfl rfl hRc k1 (by decide) rfl rfl rfl (Nat.le_of_ble_eq_true rfl) dL_law_302 ?_
      refine zr_istore (lv' := [(8, .int r14), (7, .int r4), (6, .int r1), (0, .ref v0), (1, .ref v1), (2, .int v2), (3, .int v3), (4, .int v4), (5, .int v5)]) C (by decide) rfl dL_law_305 ?_
      refine zr_aload_n C 4 rfl rfl dL_law_307 ?_
      refine zr_iconst (v := 0) C (by decide) dL_law_308 ?_
      refine zr_iconst (v := 5) C (by decide) dL_law_309 ?_
      obtain ⟨r18, h19, h⟩ := zb_e h
      refine zr_callVi (n := 2) (As := [.int 0, .int 5]) C (c_X5_ofProject l D cy hZ v1 0 5 k1 I A15 h19) wd_499 wd_500 wd_501 wd_1 wd_502 (by decide +kernel) ⟨(Nat.le_trans (Nat.le_of_ble_eq_true rfl) hRf), (Nat.le_trans (Nat.le_of_ble_eq_true rfl) hRl)⟩ rfl rfl hRc k1 (by decide) rfl rfl rfl (Nat.le_of_ble_eq_true rfl) dL_law_310 ?_
      refine zr_aload_n C 4 rfl rfl dL_law_313 ?_
      refine zr_iconst (v := 1) C (by decide) dL_law_314 ?_
      refine zr_iconst (v := 5) C (by decide) dL_law_315 ?_
      obtain ⟨r21, h22, h⟩ := zb_e h
      refine zr_callVi (n := 2) (As := [.int 1, .int 5]) C (c_X5_ofProject l D cy hZ v1 1 5 k1 I A15 h22) wd_499 wd_500 wd_501 wd_1 wd_502 (by decide +kernel) ⟨(Nat.le_trans (Nat.le_of_ble_eq_true rfl) hRf), (Nat.le_trans (Nat.le_of_ble_eq_true rfl) hRl)⟩ rfl rfl hRc k1 (by decide) rfl rfl rfl (Nat.le_of_ble_eq_true rfl) dL_law_316 ?_
      refine zr_iadd C dL_law_319 ?_
      refine zr_istore (lv' := [(9, .int (r18 + r21)), (8, .int r14), (7, .int r4), (6, .int r1), (0, .ref v0), (1, .ref v1), (2, .int v2), (3, .int v3), (4, .int v4), (5, .int v5)]) C (by decide) rfl dL_law_320 ?_
      refine zr_aload_n C 5 rfl rfl dL_law_322 ?_
      refine zr_iload C 9 rfl dL_law_323 ?_
      refine zr_iload C 2 rfl dL_law_325 ?_
      obtain ⟨r24, I25, A26, h27, h⟩ := zb3_e h
      refine zr_callVi (n := 2) (As := [.int v5, .int r4]) C (c_X5_tell l D cy hZ v1 v5 r4 k1 I A15 h27) wd_446 wd_447 wd_448 wd_1 wd_449 (by decide +kernel) ⟨(Nat.le_trans (Nat.le_of_ble_eq_true rfl) hRf), (Nat.le_trans (Nat.le_of_ble_eq_true rfl) hRl)⟩ rfl rfl hRc k1 (by decide) rfl rfl rfl (Nat.le_of_ble_eq_true rfl) dL_law_327 ?_
      refine zr_iload C 1 rfl dL_law_330 ?_
      obtain ⟨r29, h30, h⟩ := zb_e h
      refine zr_callSi (n := 1) (As := [.int r14]) C (c_J6_bitCount_0f7a4 l D cy hZ r14 I25 A26 h30) wd_654 wd_359 wd_12 wd_360 (by decide +kernel) ⟨(Nat.le_trans (Nat.le_of_ble_eq_true rfl) hRf), (Nat.le_trans (Nat.le_of_ble_eq_true rfl) hRl)⟩ rfl rfl hRc rfl rfl (Nat.le_of_ble_eq_true rfl) dL_law_332 ?_
      refine zr_icmp_ne (tgt := 374) C (by decide) dL_law_335 (fun hc32 => ?_) (fun hc32 => ?_)
      · have h := zif_f hc32 h
        refine zr_iconst (v := 0) C (by decide) dL_law_374 ?_
        exact zno h
      · have h := zif_t hc32 h
        refine zr_aload_n C 5 rfl rfl dL_law_338 ?_
        refine zr_iconst (v := 0) C (by decide) dL_law_339 ?_
        refine zr_iconst (v := 5) C (by decide) dL_law_340 ?_
        obtain ⟨r33, h34, h⟩ := zb_e h
        refine zr_callVi (n := 2) (As := [.int 0, .int 5]) C (c_X5_ofProject l D cy hZ v1 0 5 k1 I25 A26 h34) wd_499 wd_500 wd_501 wd_1 wd_502 (by decide +kernel) ⟨(Nat.le_trans (Nat.le_of_ble_eq_true rfl) hRf), (Nat.le_trans (Nat.le_of_ble_eq_true rfl) hRl)⟩ rfl rfl hRc k1 (by decide) rfl rfl rfl (Nat.le_of_ble_eq_true rfl) dL_law_341 ?_
        refine zr_aload_n C 5 rfl rfl dL_law_344 ?_
        refine zr_iconst (v := 1) C (by decide) dL_law_345 ?_
        refine zr_iconst (v := 5) C (by decide) dL_law_346 ?_
        obtain ⟨r36, h37, h⟩ := zb_e h
        refine zr_callVi (n := 2) (As := [.int 1, .int 5]) C (c_X5_ofProject l D cy hZ v1 1 5 k1 I25 A26 h37) wd_499 wd_500 wd_501 wd_1 wd_502 (by decide +kernel) ⟨(Nat.le_trans (Nat.le_of_ble_eq_true rfl) hRf), (Nat.le_trans (Nat.le_of_ble_eq_true rfl) hRl)⟩ rfl rfl hRc k1 (by decide) rfl rfl rfl (Nat.le_of_ble_eq_true rfl) dL_law_347 ?_
        refine zr_iadd C dL_law_350 ?_
        refine zr_iload C 0 rfl dL_law_351 ?_
        refine zr_iload C 1 rfl dL_law_353 ?_
        obtain ⟨r39, h40, h⟩ := zb_e h
        refine zr_callSi (n := 1) (As := [.int r14]) C (c_J6_bitCount_0f7a4 l D cy hZ r14 I25 A26 h40) wd_654 wd_359 wd_12 wd_360 (by decide +kernel) ⟨(Nat.le_trans (Nat.le_of_ble_eq_true rfl) hRf), (Nat.le_trans (Nat.le_of_ble_eq_true rfl) hRl)⟩ rfl rfl hRc rfl rfl (Nat.le_of_ble_eq_true rfl) dL_law_355 ?_
        refine zr_iadd C dL_law_358 ?_
        refine zr_icmp_ne (tgt := 374) C (by decide) dL_law_359 (fun hc42 => ?_) (fun hc42 => ?_)
        · have h := zif_f hc42 h
          refine zr_iconst (v := 0) C (by decide) dL_law_374 ?_
          exact zno h
        · have h := zif_t hc42 h
          refine zr_aload_n C 5 rfl rfl dL_law_362 ?_
          refine zr_iload C 9 rfl dL_law_363 ?_
          refine zr_iconst (v := 2) C (by decide) dL_law_365 ?_
          obtain ⟨r43, h44, h⟩ := zb_e h
          refine zr_callVi (n := 2) (As := [.int v5, .int 2]) C (c_X5_ofPiece l D cy hZ v1 v5 2 k1 I25 A26 h44) wd_364 wd_365 wd_366 wd_1 wd_367 (by decide +kernel) ⟨(Nat.le_trans (Nat.le_of_ble_eq_true rfl) hRf), (Nat.le_trans (Nat.le_of_ble_eq_true rfl) hRl)⟩ rfl rfl hRc k1 (by decide) rfl rfl rfl (Nat.le_of_ble_eq_true rfl) dL_law_366 ?_
          refine zr_iload C 2 rfl dL_law_369 ?_
          refine zr_icmp_eq (tgt := 670) C (by decide) dL_law_371 (fun hc46 => ?_) (fun hc46 => ?_)
          · have h := zif_t hc46 h
            refine zr_lv (lv' := [(0, .ref v0), (1, .ref v1), (2, .int v2)]) C [4, 5, 6] rfl ?_
            refine zw_widen (k := cells + 1) (n := slots + 10) (Nat.le_succ _) (Nat.le_add_right _ _) ?_
            exact wj_L_law_670 l D cy hZ C hRf hRl hRc hRg Ln xs v0 v1 hX hXb hXL k1 v2 I25 A26 o h hg
          · have h := zif_f hc46 h
            refine zr_iconst (v := 0) C (by decide) dL_law_374 ?_
            exact zno h
    have h := zif_f hc13 h
    by_cases hc47 : r8 = 3
    · have h := zif_t hc47 h
      refine zr_tableIn (off := 155) (tgt := 376) C (by rw [hc47]; decide) (by rw [hc47]; decide) (by rw [hc47]; decide) (by decide) dL_law_221 ?_
      refine zr_aload_n C 3 rfl rfl dL_law_376 ?_
      refine zr_iload C 7 rfl dL_law_377 ?_
      refine zr_iconst (v := 3) C (by decide) dL_law_379 ?_
      obtain ⟨r48, h49, h⟩ := zb_e h
      refine zr_callVi (n := 2) (As := [.int v5, .int 3]) C (c_X5_ofPiece l D cy hZ v1 v5 3 k1 I A h49) wd_364 wd_365 wd_366 wd_1 wd_367 (by decide +kernel) ⟨(Nat.le_trans (Nat.le_of_ble_eq_true rfl) hRf), (Nat.le_trans (Nat.le_of_ble_eq_true rfl) hRl)⟩ rfl rfl hRc k1 (by decide) rfl rfl rfl (Nat.le_of_ble_eq_true rfl) dL_law_380 ?_
      refine zr_istore (lv' := [(10, .int r48), (7, .int r4), (6, .int r1), (0, .ref v0), (1, .ref v1), (2, .int v2), (3, .int v3), (4, .int v4), (5, .int v5)]) C (by decide) rfl dL_law_383 ?_
      refine zr_iload C 0 rfl dL_law_385 ?_
      refine zr_iload C 1 rfl dL_law_387 ?_
      refine zr_ishr C dL_law_389 ?_
      refine zr_iconst (v := 1) C (by decide) dL_law_390 ?_
      refine zr_iand C dL_law_391 ?_
      refine zr_if_ne (tgt := 398) C (by decide) dL_law_392 (fun hc51 => ?_) (fun hc51 => ?_)
      · have h := zif_f hc51 h
        refine zr_aload_n C 4 rfl rfl dL_law_398 ?_
        refine zr_iload C 1 rfl dL_law_399 ?_
        refine zr_iconst (v := 3) C (by decide) dL_law_401 ?_
        obtain ⟨r52, h53, h⟩ := zb_e h
        refine zr_callVi (n := 2) (As := [.int r4, .int 3]) C (c_X5_ofLicence l D cy hZ v1 r4 3 k1 I A h53) wd_432 wd_433 wd_434 wd_1 wd_435 (by decide +kernel) ⟨(Nat.le_trans (Nat.le_of_ble_eq_true rfl) hRf), (Nat.le_trans (Nat.le_of_ble_eq_true rfl) hRl)⟩ rfl rfl hRc k1 (by decide) rfl rfl rfl (Nat.le_of_ble_eq_true rfl) dL_law_402 ?_
        refine zr_istore (lv' := [(11, .int r52), (10, .int r48), (7, .int r4), (6, .int r1), (0, .ref v0), (1, .ref v1), (2, .int v2), (3, .int v3), (4, .int v4), (5, .int v5)]) C (by decide) rfl dL_law_405 ?_
        refine zr_aload_n C 5 rfl rfl dL_law_407 ?_
        refine zr_iload C 9 rfl dL_law_408 ?_
        refine zr_iload C 2 rfl dL_law_410 ?_
        obtain ⟨r55, I56, A57, h58, h⟩ := zb3_e h
        refine zr_callVi (n := 2) (As := [.int v5, .int r4]) C (c_X5_ask l D cy hZ v1 v5 r4 k1 I A h58) wd_450 wd_451 wd_452 wd_1 wd_453 (by decide +kernel) ⟨(Nat.le_trans (Nat.le_of_ble_eq_true rfl) hRf), (Nat.le_trans (Nat.le_of_ble_eq_true rfl) hRl)⟩ rfl rfl hRc k1 (by decide) rfl rfl rfl (Nat.le_of_ble_eq_true rfl) dL_law_412 ?_
        refine zr_iload C 0 rfl dL_law_415 ?_
        refine zr_if_le (tgt := 424) C (by decide) dL_law_417 (fun hc60 => ?_) (fun hc60 => ?_)
        · have h := zif_t hc60 h
          refine zr_iconst (v := 0) C (by decide) dL_law_424 ?_
          refine zr_icmp_ne (tgt := 449) C (by decide) dL_law_425 (fun hc61 => ?_) (fun hc61 => ?_)
          · have h := zif_f hc61 h
            refine zr_iconst (v := 0) C (by decide) dL_law_449 ?_
            exact zno h
          · have h := zif_t hc61 h
            refine zr_iload C 0 rfl dL_law_428 ?_
            refine zr_if_le (tgt := 670) C (by decide) dL_law_430 (fun hc62 => ?_) (fun hc62 => ?_)
            · have h := zif_t hc62 h
              refine zr_lv (lv' := [(0, .ref v0), (1, .ref v1), (2, .int v2)]) C [4, 5, 6] rfl ?_
              refine zw_widen (k := cells + 1) (n := slots + 10) (Nat.le_succ _) (Nat.le_add_right _ _) ?_
              exact wj_L_law_670 l D cy hZ C hRf hRl hRc hRg Ln xs v0 v1 hX hXb hXL k1 v2 I56 A57 o h hg
            · have h := zif_f hc62 h
              refine zr_aload_n C 5 rfl rfl dL_law_433 ?_
              refine zr_iload C 9 rfl dL_law_434 ?_
              refine zr_iconst (v := 3) C (by decide) dL_law_436 ?_
              obtain ⟨r63, h64, h⟩ := zb_e h
              refine zr_callVi (n := 2) (As := [.int v5, .int 3]) C (c_X5_ofPiece l D cy hZ v1 v5 3 k1 I56 A57 h64) wd_364 wd_365 wd_366 wd_1 wd_367 (by decide +kernel) ⟨(Nat.le_trans (Nat.le_of_ble_eq_true rfl) hRf), (Nat.le_trans (Nat.le_of_ble_eq_true rfl) hRl)⟩ rfl rfl hRc k1 (by decide) rfl rfl rfl (Nat.le_of_ble_eq_true rfl) dL_law_437 ?_
              refine zr_iload C 2 rfl dL_law_440 ?_
              refine zr_ishr C dL_law_442 ?_
              refine zr_iconst (v := 1) C (by decide) dL_law_443 ?_
              refine zr_iand C dL_law_444 ?_
              refine zr_iconst (v := 1) C (by decide) dL_law_445 ?_
              refine zr_icmp_ne (tgt := 670) C (by decide) dL_law_446 (fun hc66 => ?_) (fun hc66 => ?_)
              · have h := zif_f hc66 h
                refine zr_lv (lv' := [(0, .ref v0), (1, .ref v1), (2, .int v2)]) C [4, 5, 6] rfl ?_
                refine zw_widen (k := cells + 1) (n := slots + 10) (Nat.le_succ _) (Nat.le_add_right _ _) ?_
                exact wj_L_law_670 l D cy hZ C hRf hRl hRc hRg Ln xs v0 v1 hX hXb hXL k1 v2 I56 A57 o h hg
              · have h := zif_t hc66 h
                refine zr_iconst (v := 0) C (by decide) dL_law_449 ?_
                exact zno h
        · have h := zif_f hc60 h
          refine zr_iconst (v := 1) C (by decide) dL_law_420 ?_
          refine zr_goto (tgt := 425) C (by decide) dL_law_421 ?_
          refine zr_icmp_ne (tgt := 449) C (by decide) dL_law_425 (fun hc67 => ?_) (fun hc67 => ?_)
          · have h := zif_f hc67 h
            refine zr_iconst (v := 0) C (by decide) dL_law_449 ?_
            exact zno h
          · have h := zif_t hc67 h
            refine zr_iload C 0 rfl dL_law_428 ?_
            refine zr_if_le (tgt := 670) C (by decide) dL_law_430 (fun hc68 => ?_) (fun hc68 => ?_)
            · have h := zif_t hc68 h
              refine zr_lv (lv' := [(0, .ref v0), (1, .ref v1), (2, .int v2)]) C [4, 5, 6] rfl ?_
              refine zw_widen (k := cells + 1) (n := slots + 10) (Nat.le_succ _) (Nat.le_add_right _ _) ?_
              exact wj_L_law_670 l D cy hZ C hRf hRl hRc hRg Ln xs v0 v1 hX hXb hXL k1 v2 I56 A57 o h hg
            · have h := zif_f hc68 h
              refine zr_aload_n C 5 rfl rfl dL_law_433 ?_
              refine zr_iload C 9 rfl dL_law_434 ?_
              refine zr_iconst (v := 3) C (by decide) dL_law_436 ?_
              obtain ⟨r69, h70, h⟩ := zb_e h
              refine zr_callVi (n := 2) (As := [.int v5, .int 3]) C (c_X5_ofPiece l D cy hZ v1 v5 3 k1 I56 A57 h70) wd_364 wd_365 wd_366 wd_1 wd_367 (by decide +kernel) ⟨(Nat.le_trans (Nat.le_of_ble_eq_true rfl) hRf), (Nat.le_trans (Nat.le_of_ble_eq_true rfl) hRl)⟩ rfl rfl hRc k1 (by decide) rfl rfl rfl (Nat.le_of_ble_eq_true rfl) dL_law_437 ?_
              refine zr_iload C 2 rfl dL_law_440 ?_
              refine zr_ishr C dL_law_442 ?_
              refine zr_iconst (v := 1) C (by decide) dL_law_443 ?_
              refine zr_iand C dL_law_444 ?_
              refine zr_iconst (v := 1) C (by decide) dL_law_445 ?_
              refine zr_icmp_ne (tgt := 670) C (by decide) dL_law_446 (fun hc72 => ?_) (fun hc72 => ?_)
              · have h := zif_f hc72 h
                refine zr_lv (lv' := [(0, .ref v0), (1, .ref v1), (2, .int v2)]) C [4, 5, 6] rfl ?_
                refine zw_widen (k := cells + 1) (n := slots + 10) (Nat.le_succ _) (Nat.le_add_right _ _) ?_
                exact wj_L_law_670 l D cy hZ C hRf hRl hRc hRg Ln xs v0 v1 hX hXb hXL k1 v2 I56 A57 o h hg
              · have h := zif_t hc72 h
                refine zr_iconst (v := 0) C (by decide) dL_law_449 ?_
                exact zno h
      · have h := zif_t hc51 h
        refine zr_goto (tgt := 670) C (by decide) dL_law_395 ?_
        refine zr_lv (lv' := [(0, .ref v0), (1, .ref v1), (2, .int v2)]) C [3, 4, 5] rfl ?_
        refine zw_widen (k := cells + 1) (n := slots + 10) (Nat.le_succ _) (Nat.le_add_right _ _) ?_
        exact wj_L_law_670 l D cy hZ C hRf hRl hRc hRg Ln xs v0 v1 hX hXb hXL k1 v2 I A o h hg
    have h := zif_f hc47 h
    by_cases hc73 : r8 = 4
    · have h := zif_t hc73 h
      refine zr_tableIn (off := 230) (tgt := 451) C (by rw [hc73]; decide) (by rw [hc73]; decide) (by rw [hc73]; decide) (by decide) dL_law_221 ?_
      refine zr_aload_n C 3 rfl rfl dL_law_451 ?_
      refine zr_iload C 1 rfl dL_law_452 ?_
      refine zr_iconst (v := 1) C (by decide) dL_law_454 ?_
      obtain ⟨r74, h75, h⟩ := zb_e h
      refine zr_callVi (n := 2) (As := [.int r1, .int 1]) C (c_X5_ofProject l D cy hZ v1 r1 1 k1 I A h75) wd_499 wd_500 wd_501 wd_1 wd_502 (by decide +kernel) ⟨(Nat.le_trans (Nat.le_of_ble_eq_true rfl) hRf), (Nat.le_trans (Nat.le_of_ble_eq_true rfl) hRl)⟩ rfl rfl hRc k1 (by decide) rfl rfl rfl (Nat.le_of_ble_eq_true rfl) dL_law_455 ?_
      refine zr_istore (lv' := [(12, .int r74), (7, .int r4), (6, .int r1), (0, .ref v0), (1, .ref v1), (2, .int v2), (3, .int v3), (4, .int v4), (5, .int v5)]) C (by decide) rfl dL_law_458 ?_
      refine zr_iload_n C 6 rfl rfl dL_law_460 ?_
      refine zr_iconst (v := 4) C (by decide) dL_law_461 ?_
      refine zr_ishr C dL_law_462 ?_
      refine zr_bipush (v := 10) C (by decide) dL_law_463 ?_
      obtain ⟨r77, h78, h⟩ := zb_e h
      refine zr_callSi (n := 2) (As := [.int (v3 >>> (4 &&& 31)), .int 10]) C (c_L_below l D cy hZ (v3 >>> (4 &&& 31)) 10 I A h78) wd_528 wd_529 wd_0 wd_530 (by decide +kernel) ⟨(Nat.le_trans (Nat.le_of_ble_eq_true rfl) hRf), (Nat.le_trans (Nat.le_of_ble_eq_true rfl) hRl)⟩ rfl rfl hRc rfl rfl (Nat.le_of_ble_eq_true rfl) dL_law_465 ?_
      refine zr_istore (lv' := [(13, .int r77), (12, .int r74), (7, .int r4), (6, .int r1), (0, .ref v0), (1, .ref v1), (2, .int v2), (3, .int v3), (4, .int v4), (5, .int v5)]) C (by decide) rfl dL_law_468 ?_
      refine zr_iload C 1 rfl dL_law_470 ?_
      refine zr_bipush (v := 10) C (by decide) dL_law_472 ?_
      refine zr_icmp_ge (tgt := 670) C (by decide) dL_law_474 (fun hc80 => ?_) (fun hc80 => ?_)
      · have h := zif_t hc80 h
        refine zr_lv (lv' := [(0, .ref v0), (1, .ref v1), (2, .int v2)]) C [4, 5, 6] rfl ?_
        refine zw_widen (k := cells + 1) (n := slots + 10) (Nat.le_succ _) (Nat.le_add_right _ _) ?_
        exact wj_L_law_670 l D cy hZ C hRf hRl hRc hRg Ln xs v0 v1 hX hXb hXL k1 v2 I A o h hg
      · have h := zif_f hc80 h
        refine zr_aload_n C 5 rfl rfl dL_law_477 ?_
        refine zr_iload C 3 rfl dL_law_478 ?_
        refine zr_bipush (v := 6) C (by decide) dL_law_480 ?_
        obtain ⟨r81, h82, h⟩ := zb_e h
        refine zr_callVi (n := 2) (As := [.int r1, .int 6]) C (c_X5_ofProject l D cy hZ v1 r1 6 k1 I A h82) wd_499 wd_500 wd_501 wd_1 wd_502 (by decide +kernel) ⟨(Nat.le_trans (Nat.le_of_ble_eq_true rfl) hRf), (Nat.le_trans (Nat.le_of_ble_eq_true rfl) hRl)⟩ rfl rfl hRc k1 (by decide) rfl rfl rfl (Nat.le_of_ble_eq_true rfl) dL_law_482 ?_
        refine zr_iload C 0 rfl dL_law_485 ?_
        refine zr_ishr C dL_law_487 ?_
        refine zr_iconst (v := 1) C (by decide) dL_law_488 ?_
        refine zr_iand C dL_law_489 ?_
        refine zr_iconst (v := 1) C (by decide) dL_law_490 ?_
        refine zr_icmp_ne (tgt := 670) C (by decide) dL_law_491 (fun hc84 => ?_) (fun hc84 => ?_)
        · have h := zif_f hc84 h
          refine zr_lv (lv' := [(0, .ref v0), (1, .ref v1), (2, .int v2)]) C [4, 5, 6] rfl ?_
          refine zw_widen (k := cells + 1) (n := slots + 10) (Nat.le_succ _) (Nat.le_add_right _ _) ?_
          exact wj_L_law_670 l D cy hZ C hRf hRl hRc hRg Ln xs v0 v1 hX hXb hXL k1 v2 I A o h hg
        · have h := zif_t hc84 h
          refine zr_aload_n C 5 rfl rfl dL_law_494 ?_
          refine zr_iload C 3 rfl dL_law_495 ?_
          refine zr_iload C 0 rfl dL_law_497 ?_
          refine zr_iload C 9 rfl dL_law_499 ?_
          obtain ⟨r85, I86, A87, h88, h⟩ := zb3_e h
          refine zr_callVi (n := 3) (As := [.int r1, .int r77, .int v5]) C (c_X5_node l D cy hZ v1 r1 r77 v5 k1 I A h88) wd_460 wd_461 wd_462 wd_1 wd_463 (by decide +kernel) ⟨(Nat.le_trans (Nat.le_of_ble_eq_true rfl) hRf), (Nat.le_trans (Nat.le_of_ble_eq_true rfl) hRl)⟩ rfl rfl hRc k1 (by decide) rfl rfl rfl (Nat.le_of_ble_eq_true rfl) dL_law_501 ?_
          refine zr_if_lt (tgt := 521) C (by decide) dL_law_504 (fun hc90 => ?_) (fun hc90 => ?_)
          · have h := zif_t hc90 h
            refine zr_iconst (v := 0) C (by decide) dL_law_521 ?_
            exact zno h
          · have h := zif_f hc90 h
            refine zr_aload_n C 5 rfl rfl dL_law_507 ?_
            refine zr_iload C 3 rfl dL_law_508 ?_
            refine zr_iconst (v := 1) C (by decide) dL_law_510 ?_
            obtain ⟨r91, h92, h⟩ := zb_e h
            refine zr_callVi (n := 2) (As := [.int r1, .int 1]) C (c_X5_ofProject l D cy hZ v1 r1 1 k1 I86 A87 h92) wd_499 wd_500 wd_501 wd_1 wd_502 (by decide +kernel) ⟨(Nat.le_trans (Nat.le_of_ble_eq_true rfl) hRf), (Nat.le_trans (Nat.le_of_ble_eq_true rfl) hRl)⟩ rfl rfl hRc k1 (by decide) rfl rfl rfl (Nat.le_of_ble_eq_true rfl) dL_law_511 ?_
            refine zr_iload C 1 rfl dL_law_514 ?_
            refine zr_iconst (v := 1) C (by decide) dL_law_516 ?_
            refine zr_iadd C dL_law_517 ?_
            refine zr_icmp_eq (tgt := 670) C (by decide) dL_law_518 (fun hc94 => ?_) (fun hc94 => ?_)
            · have h := zif_t hc94 h
              refine zr_lv (lv' := [(0, .ref v0), (1, .ref v1), (2, .int v2)]) C [4, 5, 6] rfl ?_
              refine zw_widen (k := cells + 1) (n := slots + 10) (Nat.le_succ _) (Nat.le_add_right _ _) ?_
              exact wj_L_law_670 l D cy hZ C hRf hRl hRc hRg Ln xs v0 v1 hX hXb hXL k1 v2 I86 A87 o h hg
            · have h := zif_f hc94 h
              refine zr_iconst (v := 0) C (by decide) dL_law_521 ?_
              exact zno h
    have h := zif_f hc73 h
    by_cases hc95 : r8 = 5
    · have h := zif_t hc95 h
      refine zr_tableIn (off := 302) (tgt := 523) C (by rw [hc95]; decide) (by rw [hc95]; decide) (by rw [hc95]; decide) (by decide) dL_law_221 ?_
      refine zr_iload_n C 5 rfl rfl dL_law_523 ?_
      refine zr_iconst (v := 4) C (by decide) dL_law_524 ?_
      refine zr_ishr C dL_law_525 ?_
      refine zr_iconst (v := 5) C (by decide) dL_law_526 ?_
      obtain ⟨r96, h97, h⟩ := zb_e h
      refine zr_callSi (n := 2) (As := [.int (v3 >>> (4 &&& 31)), .int 5]) C (c_L_below l D cy hZ (v3 >>> (4 &&& 31)) 5 I A h97) wd_528 wd_529 wd_0 wd_530 (by decide +kernel) ⟨(Nat.le_trans (Nat.le_of_ble_eq_true rfl) hRf), (Nat.le_trans (Nat.le_of_ble_eq_true rfl) hRl)⟩ rfl rfl hRc rfl rfl (Nat.le_of_ble_eq_true rfl) dL_law_527 ?_
      refine zr_istore (lv' := [(14, .int r96), (7, .int r4), (6, .int r1), (0, .ref v0), (1, .ref v1), (2, .int v2), (3, .int v3), (4, .int v4), (5, .int v5)]) C (by decide) rfl dL_law_530 ?_
      refine zr_aload_n C 4 rfl rfl dL_law_532 ?_
      refine zr_iload C 2 rfl dL_law_533 ?_
      refine zr_iconst (v := 4) C (by decide) dL_law_535 ?_
      obtain ⟨r99, h100, h⟩ := zb_e h
      refine zr_callVi (n := 2) (As := [.int r1, .int 4]) C (c_X5_ofProject l D cy hZ v1 r1 4 k1 I A h100) wd_499 wd_500 wd_501 wd_1 wd_502 (by decide +kernel) ⟨(Nat.le_trans (Nat.le_of_ble_eq_true rfl) hRf), (Nat.le_trans (Nat.le_of_ble_eq_true rfl) hRl)⟩ rfl rfl hRc k1 (by decide) rfl rfl rfl (Nat.le_of_ble_eq_true rfl) dL_law_536 ?_
      refine zr_iload C 0 rfl dL_law_539 ?_
      refine zr_ishr C dL_law_541 ?_
      refine zr_iconst (v := 1) C (by decide) dL_law_542 ?_
      refine zr_iand C dL_law_543 ?_
      refine zr_iconst (v := 1) C (by decide) dL_law_544 ?_
      refine zr_icmp_ne (tgt := 552) C (by decide) dL_law_545 (fun hc102 => ?_) (fun hc102 => ?_)
      · have h := zif_f hc102 h
        refine zr_iconst (v := 0) C (by decide) dL_law_552 ?_
        refine zr_istore (lv' := [(15, .int 0), (14, .int r96), (7, .int r4), (6, .int r1), (0, .ref v0), (1, .ref v1), (2, .int v2), (3, .int v3), (4, .int v4), (5, .int v5)]) C (by decide) rfl dL_law_553 ?_
        refine zr_aload_n C 5 rfl rfl dL_law_555 ?_
        refine zr_iload C 3 rfl dL_law_556 ?_
        refine zr_iload C 1 rfl dL_law_558 ?_
        refine zr_iconst (v := 1) C (by decide) dL_law_560 ?_
        obtain ⟨r103, I104, A105, h106, h⟩ := zb3_e h
        refine zr_callVi (n := 3) (As := [.int r1, .int r96, .int 1]) C (c_X5_notice l D cy hZ v1 r1 r96 1 k1 I A h106) wd_487 wd_488 wd_489 wd_1 wd_490 (by decide +kernel) ⟨(Nat.le_trans (Nat.le_of_ble_eq_true rfl) hRf), (Nat.le_trans (Nat.le_of_ble_eq_true rfl) hRl)⟩ rfl rfl hRc k1 (by decide) rfl rfl rfl (Nat.le_of_ble_eq_true rfl) dL_law_561 ?_
        refine zr_iload C 0 rfl dL_law_564 ?_
        refine zr_icmp_ne (tgt := 585) C (by decide) dL_law_566 (fun hc108 => ?_) (fun hc108 => ?_)
        · have h := zif_f hc108 h
          refine zr_iconst (v := 0) C (by decide) dL_law_585 ?_
          exact zno h
        · have h := zif_t hc108 h
          refine zr_aload_n C 5 rfl rfl dL_law_569 ?_
          refine zr_iload C 3 rfl dL_law_570 ?_
          refine zr_iconst (v := 3) C (by decide) dL_law_572 ?_
          obtain ⟨r109, h110, h⟩ := zb_e h
          refine zr_callVi (n := 2) (As := [.int r1, .int 3]) C (c_X5_ofProject l D cy hZ v1 r1 3 k1 I104 A105 h110) wd_499 wd_500 wd_501 wd_1 wd_502 (by decide +kernel) ⟨(Nat.le_trans (Nat.le_of_ble_eq_true rfl) hRf), (Nat.le_trans (Nat.le_of_ble_eq_true rfl) hRl)⟩ rfl rfl hRc k1 (by decide) rfl rfl rfl (Nat.le_of_ble_eq_true rfl) dL_law_573 ?_
          refine zr_iload C 1 rfl dL_law_576 ?_
          refine zr_ishr C dL_law_578 ?_
          refine zr_iconst (v := 1) C (by decide) dL_law_579 ?_
          refine zr_iand C dL_law_580 ?_
          refine zr_iconst (v := 1) C (by decide) dL_law_581 ?_
          refine zr_icmp_ne (tgt := 670) C (by decide) dL_law_582 (fun hc112 => ?_) (fun hc112 => ?_)
          · have h := zif_f hc112 h
            refine zr_lv (lv' := [(0, .ref v0), (1, .ref v1), (2, .int v2)]) C [4, 5, 6] rfl ?_
            refine zw_widen (k := cells + 1) (n := slots + 10) (Nat.le_succ _) (Nat.le_add_right _ _) ?_
            exact wj_L_law_670 l D cy hZ C hRf hRl hRc hRg Ln xs v0 v1 hX hXb hXL k1 v2 I104 A105 o h hg
          · have h := zif_t hc112 h
            refine zr_iconst (v := 0) C (by decide) dL_law_585 ?_
            exact zno h
      · have h := zif_t hc102 h
        refine zr_iconst (v := 1) C (by decide) dL_law_548 ?_
        refine zr_goto (tgt := 553) C (by decide) dL_law_549 ?_
        refine zr_istore (lv' := [(15, .int 1), (14, .int r96), (7, .int r4), (6, .int r1), (0, .ref v0), (1, .ref v1), (2, .int v2), (3, .int v3), (4, .int v4), (5, .int v5)]) C (by decide) rfl dL_law_553 ?_
        refine zr_aload_n C 5 rfl rfl dL_law_555 ?_
        refine zr_iload C 3 rfl dL_law_556 ?_
        refine zr_iload C 1 rfl dL_law_558 ?_
        refine zr_iconst (v := 1) C (by decide) dL_law_560 ?_
        obtain ⟨r113, I114, A115, h116, h⟩ := zb3_e h
        refine zr_callVi (n := 3) (As := [.int r1, .int r96, .int 1]) C (c_X5_notice l D cy hZ v1 r1 r96 1 k1 I A h116) wd_487 wd_488 wd_489 wd_1 wd_490 (by decide +kernel) ⟨(Nat.le_trans (Nat.le_of_ble_eq_true rfl) hRf), (Nat.le_trans (Nat.le_of_ble_eq_true rfl) hRl)⟩ rfl rfl hRc k1 (by decide) rfl rfl rfl (Nat.le_of_ble_eq_true rfl) dL_law_561 ?_
        refine zr_iload C 0 rfl dL_law_564 ?_
        refine zr_icmp_ne (tgt := 585) C (by decide) dL_law_566 (fun hc118 => ?_) (fun hc118 => ?_)
        · have h := zif_f hc118 h
          refine zr_iconst (v := 0) C (by decide) dL_law_585 ?_
          exact zno h
        · have h := zif_t hc118 h
          refine zr_aload_n C 5 rfl rfl dL_law_569 ?_
          refine zr_iload C 3 rfl dL_law_570 ?_
          refine zr_iconst (v := 3) C (by decide) dL_law_572 ?_
          obtain ⟨r119, h120, h⟩ := zb_e h
          refine zr_callVi (n := 2) (As := [.int r1, .int 3]) C (c_X5_ofProject l D cy hZ v1 r1 3 k1 I114 A115 h120) wd_499 wd_500 wd_501 wd_1 wd_502 (by decide +kernel) ⟨(Nat.le_trans (Nat.le_of_ble_eq_true rfl) hRf), (Nat.le_trans (Nat.le_of_ble_eq_true rfl) hRl)⟩ rfl rfl hRc k1 (by decide) rfl rfl rfl (Nat.le_of_ble_eq_true rfl) dL_law_573 ?_
          refine zr_iload C 1 rfl dL_law_576 ?_
          refine zr_ishr C dL_law_578 ?_
          refine zr_iconst (v := 1) C (by decide) dL_law_579 ?_
          refine zr_iand C dL_law_580 ?_
          refine zr_iconst (v := 1) C (by decide) dL_law_581 ?_
          refine zr_icmp_ne (tgt := 670) C (by decide) dL_law_582 (fun hc122 => ?_) (fun hc122 => ?_)
          · have h := zif_f hc122 h
            refine zr_lv (lv' := [(0, .ref v0), (1, .ref v1), (2, .int v2)]) C [4, 5, 6] rfl ?_
            refine zw_widen (k := cells + 1) (n := slots + 10) (Nat.le_succ _) (Nat.le_add_right _ _) ?_
            exact wj_L_law_670 l D cy hZ C hRf hRl hRc hRg Ln xs v0 v1 hX hXb hXL k1 v2 I114 A115 o h hg
          · have h := zif_t hc122 h
            refine zr_iconst (v := 0) C (by decide) dL_law_585 ?_
            exact zno h
    have h := zif_f hc95 h
    by_cases hc123 : r8 = 6
    · have h := zif_t hc123 h
      refine zr_tableIn (off := 366) (tgt := 587) C (by rw [hc123]; decide) (by rw [hc123]; decide) (by rw [hc123]; decide) (by decide) dL_law_221 ?_
      refine zr_aload_n C 3 rfl rfl dL_law_587 ?_
      refine zr_iload C 1 rfl dL_law_588 ?_
      refine zr_iconst (v := 0) C (by decide) dL_law_590 ?_
      obtain ⟨r124, h125, h⟩ := zb_e h
      refine zr_callVi (n := 2) (As := [.int r1, .int 0]) C (c_X5_ofProject l D cy hZ v1 r1 0 k1 I A h125) wd_499 wd_500 wd_501 wd_1 wd_502 (by decide +kernel) ⟨(Nat.le_trans (Nat.le_of_ble_eq_true rfl) hRf), (Nat.le_trans (Nat.le_of_ble_eq_true rfl) hRl)⟩ rfl rfl hRc k1 (by decide) rfl rfl rfl (Nat.le_of_ble_eq_true rfl) dL_law_591 ?_
      refine zr_iconst (v := 1) C (by decide) dL_law_594 ?_
      refine zr_icmp_eq (tgt := 622) C (by decide) dL_law_595 (fun hc127 => ?_) (fun hc127 => ?_)
      · have h := zif_t hc127 h
        refine zr_iconst (v := 0) C (by decide) dL_law_622 ?_
        refine zr_istore (lv' := [(16, .int 0), (7, .int r4), (6, .int r1), (0, .ref v0), (1, .ref v1), (2, .int v2), (3, .int v3), (4, .int v4), (5, .int v5)]) C (by decide) rfl dL_law_623 ?_
        refine zr_iload C 0 rfl dL_law_625 ?_
        refine zr_if_eq (tgt := 670) C (by decide) dL_law_627 (fun _ => ?_) (fun hc => absurd hc (by decide))
        refine zr_lv (lv' := [(0, .ref v0), (1, .ref v1), (2, .int v2)]) C [3, 4, 5] rfl ?_
        refine zw_widen (k := cells + 1) (n := slots + 10) (Nat.le_succ _) (Nat.le_add_right _ _) ?_
        exact wj_L_law_670 l D cy hZ C hRf hRl hRc hRg Ln xs v0 v1 hX hXb hXL k1 v2 I A o h hg
      · have h := zif_f hc127 h
        refine zr_aload_n C 3 rfl rfl dL_law_598 ?_
        refine zr_iload C 1 rfl dL_law_599 ?_
        refine zr_iconst (v := 2) C (by decide) dL_law_601 ?_
        obtain ⟨r128, h129, h⟩ := zb_e h
        refine zr_callVi (n := 2) (As := [.int r1, .int 2]) C (c_X5_ofProject l D cy hZ v1 r1 2 k1 I A h129) wd_499 wd_500 wd_501 wd_1 wd_502 (by decide +kernel) ⟨(Nat.le_trans (Nat.le_of_ble_eq_true rfl) hRf), (Nat.le_trans (Nat.le_of_ble_eq_true rfl) hRl)⟩ rfl rfl hRc k1 (by decide) rfl rfl rfl (Nat.le_of_ble_eq_true rfl) dL_law_602 ?_
        refine zr_if_ne (tgt := 622) C (by decide) dL_law_605 (fun hc131 => ?_) (fun hc131 => ?_)
        · have h := zif_f hc131 h
          refine zr_iconst (v := 0) C (by decide) dL_law_622 ?_
          refine zr_istore (lv' := [(16, .int 0), (7, .int r4), (6, .int r1), (0, .ref v0), (1, .ref v1), (2, .int v2), (3, .int v3), (4, .int v4), (5, .int v5)]) C (by decide) rfl dL_law_623 ?_
          refine zr_iload C 0 rfl dL_law_625 ?_
          refine zr_if_eq (tgt := 670) C (by decide) dL_law_627 (fun _ => ?_) (fun hc => absurd hc (by decide))
          refine zr_lv (lv' := [(0, .ref v0), (1, .ref v1), (2, .int v2)]) C [3, 4, 5] rfl ?_
          refine zw_widen (k := cells + 1) (n := slots + 10) (Nat.le_succ _) (Nat.le_add_right _ _) ?_
          exact wj_L_law_670 l D cy hZ C hRf hRl hRc hRg Ln xs v0 v1 hX hXb hXL k1 v2 I A o h hg
        · have h := zif_t hc131 h
          refine zr_aload_n C 3 rfl rfl dL_law_608 ?_
          refine zr_iload C 1 rfl dL_law_609 ?_
          refine zr_iconst (v := 3) C (by decide) dL_law_611 ?_
          obtain ⟨r132, h133, h⟩ := zb_e h
          refine zr_callVi (n := 2) (As := [.int r1, .int 3]) C (c_X5_ofProject l D cy hZ v1 r1 3 k1 I A h133) wd_499 wd_500 wd_501 wd_1 wd_502 (by decide +kernel) ⟨(Nat.le_trans (Nat.le_of_ble_eq_true rfl) hRf), (Nat.le_trans (Nat.le_of_ble_eq_true rfl) hRl)⟩ rfl rfl hRc k1 (by decide) rfl rfl rfl (Nat.le_of_ble_eq_true rfl) dL_law_612 ?_
          refine zr_if_ne (tgt := 622) C (by decide) dL_law_615 (fun hc135 => ?_) (fun hc135 => ?_)
          · have h := zif_f hc135 h
            refine zr_iconst (v := 0) C (by decide) dL_law_622 ?_
            refine zr_istore (lv' := [(16, .int 0), (7, .int r4), (6, .int r1), (0, .ref v0), (1, .ref v1), (2, .int v2), (3, .int v3), (4, .int v4), (5, .int v5)]) C (by decide) rfl dL_law_623 ?_
            refine zr_iload C 0 rfl dL_law_625 ?_
            refine zr_if_eq (tgt := 670) C (by decide) dL_law_627 (fun _ => ?_) (fun hc => absurd hc (by decide))
            refine zr_lv (lv' := [(0, .ref v0), (1, .ref v1), (2, .int v2)]) C [3, 4, 5] rfl ?_
            refine zw_widen (k := cells + 1) (n := slots + 10) (Nat.le_succ _) (Nat.le_add_right _ _) ?_
            exact wj_L_law_670 l D cy hZ C hRf hRl hRc hRg Ln xs v0 v1 hX hXb hXL k1 v2 I A o h hg
          · have h := zif_t hc135 h
            refine zr_iconst (v := 1) C (by decide) dL_law_618 ?_
            refine zr_goto (tgt := 623) C (by decide) dL_law_619 ?_
            refine zr_istore (lv' := [(16, .int 1), (7, .int r4), (6, .int r1), (0, .ref v0), (1, .ref v1), (2, .int v2), (3, .int v3), (4, .int v4), (5, .int v5)]) C (by decide) rfl dL_law_623 ?_
            refine zr_iload C 0 rfl dL_law_625 ?_
            refine zr_if_eq (tgt := 670) C (by decide) dL_law_627 (fun hc => absurd hc (by decide)) (fun _ => ?_)
            refine zr_aload_n C 4 rfl rfl dL_law_630 ?_
            refine zr_iload C 2 rfl dL_law_631 ?_
            obtain ⟨r136, I137, h138, h⟩ := zb2_e h
            refine zr_callVi (n := 1) (As := [.int r1]) C (c_X5_ship l D cy hZ v1 r1 k1 I A h138) wd_492 wd_493 wd_494 wd_1 wd_495 (by decide +kernel) ⟨(Nat.le_trans (Nat.le_of_ble_eq_true rfl) hRf), (Nat.le_trans (Nat.le_of_ble_eq_true rfl) hRl)⟩ rfl rfl hRc k1 (by decide) rfl rfl rfl (Nat.le_of_ble_eq_true rfl) dL_law_633 ?_
            refine zr_aload_n C 4 rfl rfl dL_law_636 ?_
            refine zr_iload C 2 rfl dL_law_637 ?_
            refine zr_iconst (v := 5) C (by decide) dL_law_639 ?_
            obtain ⟨r140, h141, h⟩ := zb_e h
            refine zr_callVi (n := 2) (As := [.int r1, .int 5]) C (c_X5_ofProject l D cy hZ v1 r1 5 k1 I137 A h141) wd_499 wd_500 wd_501 wd_1 wd_502 (by decide +kernel) ⟨(Nat.le_trans (Nat.le_of_ble_eq_true rfl) hRf), (Nat.le_trans (Nat.le_of_ble_eq_true rfl) hRl)⟩ rfl rfl hRc k1 (by decide) rfl rfl rfl (Nat.le_of_ble_eq_true rfl) dL_law_640 ?_
            refine zr_icmp_ne (tgt := 657) C (by decide) dL_law_643 (fun hc143 => ?_) (fun hc143 => ?_)
            · have h := zif_f hc143 h
              refine zr_iconst (v := 0) C (by decide) dL_law_657 ?_
              exact zno h
            · have h := zif_t hc143 h
              refine zr_aload_n C 4 rfl rfl dL_law_646 ?_
              refine zr_iload C 2 rfl dL_law_647 ?_
              refine zr_iconst (v := 0) C (by decide) dL_law_649 ?_
              obtain ⟨r144, h145, h⟩ := zb_e h
              refine zr_callVi (n := 2) (As := [.int r1, .int 0]) C (c_X5_ofProject l D cy hZ v1 r1 0 k1 I137 A h145) wd_499 wd_500 wd_501 wd_1 wd_502 (by decide +kernel) ⟨(Nat.le_trans (Nat.le_of_ble_eq_true rfl) hRf), (Nat.le_trans (Nat.le_of_ble_eq_true rfl) hRl)⟩ rfl rfl hRc k1 (by decide) rfl rfl rfl (Nat.le_of_ble_eq_true rfl) dL_law_650 ?_
              refine zr_iconst (v := 1) C (by decide) dL_law_653 ?_
              refine zr_icmp_eq (tgt := 670) C (by decide) dL_law_654 (fun hc147 => ?_) (fun hc147 => ?_)
              · have h := zif_t hc147 h
                refine zr_lv (lv' := [(0, .ref v0), (1, .ref v1), (2, .int v2)]) C [3, 4, 5] rfl ?_
                refine zw_widen (k := cells + 1) (n := slots + 10) (Nat.le_succ _) (Nat.le_add_right _ _) ?_
                exact wj_L_law_670 l D cy hZ C hRf hRl hRc hRg Ln xs v0 v1 hX hXb hXL k1 v2 I137 A o h hg
              · have h := zif_f hc147 h
                refine zr_iconst (v := 0) C (by decide) dL_law_657 ?_
                exact zno h
    have h := zif_f hc123 h
    refine zr_tableOut (tgt := 659) C (zsw_0_6 hc11 hc12 hc13 hc47 hc73 hc95 hc123) (by decide) dL_law_221 ?_
    refine zr_aload_n C 3 rfl rfl dL_law_659 ?_
    refine zr_iload C 1 rfl dL_law_660 ?_
    obtain ⟨r148, I149, A150, h151, h⟩ := zb3_e h
    refine zr_callX (n := 2) (As := [.ref v1, .int r1]) C (c_L_isCleared l D cy hZ v1 r1 k1 I A h151) wd_567 wd_568 wd_0 wd_569 (by decide +kernel) ⟨(Nat.le_trans (Nat.le_of_ble_eq_true rfl) hRf), (Nat.le_trans (Nat.le_of_ble_eq_true rfl) hRl)⟩ rfl rfl hRg rfl rfl (Nat.le_of_ble_eq_true rfl) dL_law_662 ?_
    refine zr_if_ne (tgt := 670) C (by decide) dL_law_665 (fun hc153 => ?_) (fun hc153 => ?_)
    · have h := zif_f hc153 h
      refine zr_lv (lv' := [(0, .ref v0), (1, .ref v1), (2, .int v2)]) C [2, 3, 4] rfl ?_
      exact wj_L_law_670 l D cy hZ C hRf hRl hRc hRg Ln xs v0 v1 hX hXb hXL k1 v2 I149 A150 o h hg
    · have h := zif_t hc153 h
      refine zr_iconst (v := 0) C (by decide) dL_law_668 ?_
      exact zno h
  · have h := zif_f hc7 h
    refine zr_iconst (v := 0) C (by decide) dL_law_211 ?_
    refine zr_goto (tgt := 221) C (by decide) dL_law_212 ?_
    refine zr_tableIn (off := 43) (tgt := 264) C (by decide) (by decide) (by decide) (by decide) dL_law_221 ?_
    refine zr_lv (lv' := [(0, .ref v0), (1, .ref v1), (2, .int v2), (3, .int v3), (4, .int v4), (5, .int v5)]) C [2, 3, 4, 5, 6, 7] rfl ?_
    exact wj_L_law_264 l D cy hZ C hRf hRl hRc hRg Ln xs v0 v1 hX hXb hXL k1 v2 v3 v4 v5 I A o h hg hx
def g_L_law_133 (F G : Nat → Nat → Nat) (Ln : Nat) (xs : Nat → Int32) (v1 : Nat) (v2 : Int32) (I A : zH) : Option ((Int32 × zH × zH) ⊕ (Int32 × zH × zH)) :=
  if 60 ≤ v2 then (
    some (.inr (v2, I, A))
  ) else (
    zb (f_L_cell F G Ln xs (v2 - v2 / 16 * 16) I A) fun r2 =>
    zb (f_X5_many F G v1 1 I A) fun r5 =>
    if r5 = 0 then (
      j_L_law_186 F G Ln xs v1 v2 ((r2 >>> (((v2 / 16) * 2) &&& 31)) + ((7 : Int32) * v2)) r5 (-1) I A
    ) else (
      zb (f_L_below F G (((r2 >>> (((v2 / 16) * 2) &&& 31)) + ((7 : Int32) * v2)) >>> (3 &&& 31)) r5 I A) fun r9 =>
      j_L_law_186 F G Ln xs v1 v2 ((r2 >>> (((v2 / 16) * 2) &&& 31)) + ((7 : Int32) * v2)) r5 r9 I A
    )
  )
set_option maxHeartbeats 4000000 in
set_option maxRecDepth 100000 in
theorem wb_L_law_133 (l : Launch) (D : va_G) (cy : Nat → ClassId) {L : List Nat} {K N : Nat → Nat} {F G : Nat → Nat → Nat} (hZ : ZL L K N F G) {p : Program} {e : Env} {R : Room} {s : State} {m : MethodId} {args : Array Value} {below : List Frame} {meth : Method} {c : Code} {cells slots : Nat} {Q : State → Prop} (C : ZC p s m args meth c cL_law RL 17 D cy L K N F G) (hRf : 8 ≤ R.frames) (hRl : 187 ≤ R.locals) (hRc : cells ≤ R.cells ∧ slots ≤ R.slots) (hRg : cells + 1 ≤ R.cells ∧ slots + 10 ≤ R.slots) (Ln : Nat) (xs : Nat → Int32) (v0 v1 : Nat) (hX : va_X v0 Ln xs s s.heap) (hXb : v0 < s.heap.size) (hXL : v0 ∉ L) (k1 : K v1 = 5) (v2 : Int32) (I A : zH) (o : (Int32 × zH × zH) ⊕ (Int32 × zH × zH)) (h : g_L_law_133 F G Ln xs v1 v2 I A = some o)
    (hg : ∀ y : Int32 × zH × zH, o = .inl y → ZW p l e R s m args below meth c 17 D cy L K N F G (cells + 1) (slots + 10) Q y.2.1 y.2.2 133 [(0, .ref v0), (1, .ref v1), (2, .int y.1)] []) (hx : ∀ y : Int32 × zH × zH, o = .inr y → ZW p l e R s m args below meth c 17 D cy L K N F G cells slots Q y.2.1 y.2.2 722 [(0, .ref v0), (1, .ref v1), (2, .int y.1)] []) : ZW p l e R s m args below meth c 17 D cy L K N F G cells slots Q I A 133 [(0, .ref v0), (1, .ref v1), (2, .int v2)] [] := by
  unfold g_L_law_133 at h
  refine zr_iload_n C 2 rfl rfl dL_law_133 ?_
  refine zr_bipush (v := 60) C (by decide) dL_law_134 ?_
  refine zr_icmp_ge (tgt := 722) C (by decide) dL_law_136 (fun hc1 => ?_) (fun hc1 => ?_)
  · have h := zif_t hc1 h
    obtain rfl := zso h
    refine zr_lv (lv' := [(0, .ref v0), (1, .ref v1), (2, .int v2)]) C [0, 1, 2] rfl ?_
    exact hx _ rfl
  · have h := zif_f hc1 h
    refine zr_aload_n C 0 rfl rfl dL_law_139 ?_
    refine zr_iload_n C 2 rfl rfl dL_law_140 ?_
    refine zr_bipush (v := 16) C (by decide) dL_law_141 ?_
    refine zr_irem C (by decide) dL_law_143 ?_
    obtain ⟨r2, h3, h⟩ := zb_e h
    refine zr_callC (n := 2) (As := [.ref v0, .int (v2 - v2 / 16 * 16)]) C (c_L_cell l D cy hZ Ln xs v0 hXL (v2 - v2 / 16 * 16) I A h3) hX hXb hXL wd_532 wd_533 wd_0 wd_534 (by decide +kernel) ⟨(Nat.le_trans (Nat.le_of_ble_eq_true rfl) hRf), (Nat.le_trans (Nat.le_of_ble_eq_true rfl) hRl)⟩ rfl rfl hRc rfl rfl (Nat.le_of_ble_eq_true rfl) dL_law_144 ?_
    refine zr_iload_n C 2 rfl rfl dL_law_147 ?_
    refine zr_bipush (v := 16) C (by decide) dL_law_148 ?_
    refine zr_idiv C (by decide) dL_law_150 ?_
    refine zr_iconst (v := 2) C (by decide) dL_law_151 ?_
    refine zr_imul C dL_law_152 ?_
    refine zr_ishr C dL_law_153 ?_
    refine zr_bipush (v := 7) C (by decide) dL_law_154 ?_
    refine zr_iload_n C 2 rfl rfl dL_law_156 ?_
    refine zr_imul C dL_law_157 ?_
    refine zr_iadd C dL_law_158 ?_
    refine zr_istore_n (lv' := [(3, .int ((r2 >>> (((v2 / 16) * 2) &&& 31)) + ((7 : Int32) * v2))), (0, .ref v0), (1, .ref v1), (2, .int v2)]) C rfl (by decide) rfl dL_law_159 ?_
    refine zr_aload_n C 2 rfl rfl dL_law_160 ?_
    refine zr_iconst (v := 1) C (by decide) dL_law_161 ?_
    obtain ⟨r5, h6, h⟩ := zb_e h
    refine zr_callVi (n := 1) (As := [.int 1]) C (c_X5_many l D cy hZ v1 1 k1 I A h6) wd_507 wd_508 wd_509 wd_1 wd_510 (by decide +kernel) ⟨(Nat.le_trans (Nat.le_of_ble_eq_true rfl) hRf), (Nat.le_trans (Nat.le_of_ble_eq_true rfl) hRl)⟩ rfl rfl hRc k1 (by decide) rfl rfl rfl (Nat.le_of_ble_eq_true rfl) dL_law_162 ?_
    refine zr_istore (lv' := [(4, .int r5), (3, .int ((r2 >>> (((v2 / 16) * 2) &&& 31)) + ((7 : Int32) * v2))), (0, .ref v0), (1, .ref v1), (2, .int v2)]) C (by decide) rfl dL_law_165 ?_
    refine zr_iload C 0 rfl dL_law_167 ?_
    refine zr_if_ne (tgt := 176) C (by decide) dL_law_169 (fun hc8 => ?_) (fun hc8 => ?_)
    · have h := zif_f hc8 h
      refine zr_iload_n C 1 rfl rfl dL_law_176 ?_
      refine zr_iconst (v := 3) C (by decide) dL_law_177 ?_
      refine zr_ishr C dL_law_178 ?_
      refine zr_iload C 0 rfl dL_law_179 ?_
      obtain ⟨r9, h10, h⟩ := zb_e h
      refine zr_callSi (n := 2) (As := [.int (((r2 >>> (((v2 / 16) * 2) &&& 31)) + ((7 : Int32) * v2)) >>> (3 &&& 31)), .int r5]) C (c_L_below l D cy hZ (((r2 >>> (((v2 / 16) * 2) &&& 31)) + ((7 : Int32) * v2)) >>> (3 &&& 31)) r5 I A h10) wd_528 wd_529 wd_0 wd_530 (by decide +kernel) ⟨(Nat.le_trans (Nat.le_of_ble_eq_true rfl) hRf), (Nat.le_trans (Nat.le_of_ble_eq_true rfl) hRl)⟩ rfl rfl hRc rfl rfl (Nat.le_of_ble_eq_true rfl) dL_law_181 ?_
      refine zr_istore (lv' := [(5, .int r9), (4, .int r5), (3, .int ((r2 >>> (((v2 / 16) * 2) &&& 31)) + ((7 : Int32) * v2))), (0, .ref v0), (1, .ref v1), (2, .int v2)]) C (by decide) rfl dL_law_184 ?_
      refine zr_lv (lv' := [(0, .ref v0), (1, .ref v1), (2, .int v2), (3, .int ((r2 >>> (((v2 / 16) * 2) &&& 31)) + ((7 : Int32) * v2))), (4, .int r5), (5, .int r9)]) C [3, 4, 5, 2, 1, 0] rfl ?_
      exact wj_L_law_186 l D cy hZ C hRf hRl hRc hRg Ln xs v0 v1 hX hXb hXL k1 v2 ((r2 >>> (((v2 / 16) * 2) &&& 31)) + ((7 : Int32) * v2)) r5 r9 I A o h hg hx
    · have h := zif_t hc8 h
      refine zr_iconst (v := (-1)) C (by decide) dL_law_172 ?_
      refine zr_goto (tgt := 184) C (by decide) dL_law_173 ?_
      refine zr_istore (lv' := [(5, .int (-1)), (4, .int r5), (3, .int ((r2 >>> (((v2 / 16) * 2) &&& 31)) + ((7 : Int32) * v2))), (0, .ref v0), (1, .ref v1), (2, .int v2)]) C (by decide) rfl dL_law_184 ?_
      refine zr_lv (lv' := [(0, .ref v0), (1, .ref v1), (2, .int v2), (3, .int ((r2 >>> (((v2 / 16) * 2) &&& 31)) + ((7 : Int32) * v2))), (4, .int r5), (5, .int (-1))]) C [3, 4, 5, 2, 1, 0] rfl ?_
      exact wj_L_law_186 l D cy hZ C hRf hRl hRc hRg Ln xs v0 v1 hX hXb hXL k1 v2 ((r2 >>> (((v2 / 16) * 2) &&& 31)) + ((7 : Int32) * v2)) r5 (-1) I A o h hg hx
set_option maxHeartbeats 4000000 in
set_option maxRecDepth 100000 in
theorem w_L_law_133 (l : Launch) (D : va_G) (cy : Nat → ClassId) {L : List Nat} {K N : Nat → Nat} {F G : Nat → Nat → Nat} (hZ : ZL L K N F G) {p : Program} {e : Env} {R : Room} {s : State} {m : MethodId} {args : Array Value} {below : List Frame} {meth : Method} {c : Code} {Q : State → Prop} (C : ZC p s m args meth c cL_law RL 17 D cy L K N F G) (hRf : 8 ≤ R.frames) (hRl : 187 ≤ R.locals) (Ln : Nat) (xs : Nat → Int32) (v0 v1 : Nat) (hX : va_X v0 Ln xs s s.heap) (hXb : v0 < s.heap.size) (hXL : v0 ∉ L) (k1 : K v1 = 5) (n : Nat) (cells slots : Nat) (x o : Int32 × zH × zH) (hRn : cells + n ≤ R.cells ∧ slots + 10 * n ≤ R.slots) (h : zIt (fun x => g_L_law_133 F G Ln xs v1 x.1 x.2.1 x.2.2) n x = some o)
    (hx : ∀ cs ss : Nat, cs ≤ cells + n → ss ≤ slots + 10 * n → ZW p l e R s m args below meth c 17 D cy L K N F G cs ss Q o.2.1 o.2.2 722 [(0, .ref v0), (1, .ref v1), (2, .int o.1)] []) : ZW p l e R s m args below meth c 17 D cy L K N F G cells slots Q x.2.1 x.2.2 133 [(0, .ref v0), (1, .ref v1), (2, .int x.1)] [] := by
  induction n generalizing x cells slots with
  | zero => cases h
  | succ n ih =>
    unfold zIt at h
    cases hb : g_L_law_133 F G Ln xs v1 x.1 x.2.1 x.2.2 with
    | none => rw [hb] at h; cases h
    | some q =>
      rw [hb] at h
      refine wb_L_law_133 l D cy hZ C hRf hRl ⟨by omega, by omega⟩ ⟨by omega, by omega⟩ Ln xs v0 v1 hX hXb hXL k1 x.1 x.2.1 x.2.2 q hb (fun y hy => ?_) (fun y hy => ?_)
      · subst hy
        exact ih (cells + 1) (slots + 10) y ⟨by omega, by omega⟩ h (fun cs ss h1 h2 => hx cs ss (by omega) (by omega))
      · subst hy
        cases h
        exact hx cells slots (by omega) (by omega)
def g_L_law_10 (F G : Nat → Nat → Nat) (Ln : Nat) (xs : Nat → Int32) (v1 : Nat) (v2 : Int32) (I : zH) (A : zH) : Option ((Int32 × zH × zH) ⊕ (Int32 × zH × zH)) :=
  if 4 ≤ v2 then (
    some (.inr (v2, I, A))
  ) else (
    zb (f_L_cell F G Ln xs v2 I A) fun r2 =>
    zb (f_L_below F G r2 32 I A) fun r5 =>
    zb (f_L_cell F G Ln xs (v2 + 1) I A) fun r8 =>
    zb (f_L_below F G (r8 >>> (3 &&& 31)) 32 I A) fun r11 =>
    zb (f_L_cell F G Ln xs v2 I A) fun r14 =>
    zb (f_L_below F G (r14 >>> (5 &&& 31)) 32 I A) fun r17 =>
    zb (f_L_cell F G Ln xs (v2 + 2) I A) fun r20 =>
    zb (f_L_below F G (r20 >>> (2 &&& 31)) 32 I A) fun r23 =>
    zb (f_L_cell F G Ln xs v2 I A) fun r26 =>
    zb (f_L_below F G (r26 >>> (4 &&& 31)) 3 I A) fun r29 =>
    if r29 = 0 then (
      zb (f_L_cell F G Ln xs v2 I A) fun r45 =>
      zb (f_L_below F G (r45 >>> (6 &&& 31)) 3 I A) fun r48 =>
      zb3 (f_X5_licence F G v1 (r5 &&& r11) (r17 &&& r23) 1 r48 I A) fun r51 I52 A53 =>
      if r51 = v2 then (
        some (.inl (v2 + 1, I52, A53))
      ) else (
        none
      )
    ) else (
      zb (f_L_cell F G Ln xs v2 I A) fun r33 =>
      zb (f_L_below F G (r33 >>> (6 &&& 31)) 3 I A) fun r36 =>
      zb3 (f_X5_licence F G v1 (r5 &&& r11) (r17 &&& r23) 0 r36 I A) fun r39 I40 A41 =>
      if r39 = v2 then (
        some (.inl (v2 + 1, I40, A41))
      ) else (
        none
      )
    )
  )
set_option maxHeartbeats 4000000 in
set_option maxRecDepth 100000 in
theorem wb_L_law_10 (l : Launch) (D : va_G) (cy : Nat → ClassId) {L : List Nat} {K N : Nat → Nat} {F G : Nat → Nat → Nat} (hZ : ZL L K N F G) {p : Program} {e : Env} {R : Room} {s : State} {m : MethodId} {args : Array Value} {below : List Frame} {meth : Method} {c : Code} {cells slots : Nat} {Q : State → Prop} (C : ZC p s m args meth c cL_law yL_law.cls 17 D cy L K N F G) (hRf : 7 ≤ R.frames) (hRl : 164 ≤ R.locals) (hRc : cells ≤ R.cells ∧ slots ≤ R.slots)  (Ln : Nat) (xs : Nat → Int32) (v0 : Nat) (v1 : Nat) (hX : va_X v0 Ln xs s s.heap) (hXb : v0 < s.heap.size) (hXL : v0 ∉ L) (k1 : K v1 = 5) (v2 : Int32) (I : zH) (A : zH) (o : (Int32 × zH × zH) ⊕ (Int32 × zH × zH)) (h : g_L_law_10 F G Ln xs v1 v2 I A  = some o)
    (hg : ∀ y : Int32 × zH × zH, o = .inl y → ZW p l e R s m args below meth c 17 D cy L K N F G cells slots Q y.2.1 y.2.2 10 [(0, .ref v0), (1, .ref v1), (2, .int y.1)] [])
    (hx : ∀ y : Int32 × zH × zH, o = .inr y → ZW p l e R s m args below meth c 17 D cy L K N F G cells slots Q y.2.1 y.2.2 114 [(0, .ref v0), (1, .ref v1), (2, .int y.1)] []) : ZW p l e R s m args below meth c 17 D cy L K N F G cells slots Q I A 10 [(0, .ref v0), (1, .ref v1), (2, .int v2)] [] := by
  unfold g_L_law_10 at h
  refine zr_iload_n C 2 rfl rfl dL_law_10 ?_
  refine zr_iconst (v := 4) C (by decide) dL_law_11 ?_
  refine zr_icmp_ge (tgt := 114) C (by decide) dL_law_12 (fun hc1 => ?_) (fun hc1 => ?_)
  · have h := zif_t hc1 h
    obtain rfl := zso h
    refine zr_lv (lv' := [(0, .ref v0), (1, .ref v1), (2, .int v2)]) C [0, 1, 2] rfl ?_
    exact hx _ rfl
  · have h := zif_f hc1 h
    refine zr_aload_n C 1 rfl rfl dL_law_15 ?_
    refine zr_aload_n C 0 rfl rfl dL_law_16 ?_
    refine zr_iload_n C 2 rfl rfl dL_law_17 ?_
    obtain ⟨r2, h3, h⟩ := zb_e h
    refine zr_callC (n := 2) (As := [.ref v0, .int v2]) C (c_L_cell l D cy hZ Ln xs v0 hXL v2 I A h3) hX hXb hXL wd_532 wd_533 wd_0 wd_534 (by decide +kernel) ⟨(Nat.le_trans (Nat.le_of_ble_eq_true rfl) hRf), (Nat.le_trans (Nat.le_of_ble_eq_true rfl) hRl)⟩ rfl rfl hRc rfl rfl (Nat.le_of_ble_eq_true rfl) dL_law_18 ?_
    refine zr_bipush (v := 32) C (by decide) dL_law_21 ?_
    obtain ⟨r5, h6, h⟩ := zb_e h
    refine zr_callSi (n := 2) (As := [.int r2, .int 32]) C (c_L_below l D cy hZ r2 32 I A h6) wd_528 wd_529 wd_0 wd_530 (by decide +kernel) ⟨(Nat.le_trans (Nat.le_of_ble_eq_true rfl) hRf), (Nat.le_trans (Nat.le_of_ble_eq_true rfl) hRl)⟩ rfl rfl hRc rfl rfl (Nat.le_of_ble_eq_true rfl) dL_law_23 ?_
    refine zr_aload_n C 0 rfl rfl dL_law_26 ?_
    refine zr_iload_n C 2 rfl rfl dL_law_27 ?_
    refine zr_iconst (v := 1) C (by decide) dL_law_28 ?_
    refine zr_iadd C dL_law_29 ?_
    obtain ⟨r8, h9, h⟩ := zb_e h
    refine zr_callC (n := 2) (As := [.ref v0, .int (v2 + 1)]) C (c_L_cell l D cy hZ Ln xs v0 hXL (v2 + 1) I A h9) hX hXb hXL wd_532 wd_533 wd_0 wd_534 (by decide +kernel) ⟨(Nat.le_trans (Nat.le_of_ble_eq_true rfl) hRf), (Nat.le_trans (Nat.le_of_ble_eq_true rfl) hRl)⟩ rfl rfl hRc rfl rfl (Nat.le_of_ble_eq_true rfl) dL_law_30 ?_
    refine zr_iconst (v := 3) C (by decide) dL_law_33 ?_
    refine zr_ishr C dL_law_34 ?_
    refine zr_bipush (v := 32) C (by decide) dL_law_35 ?_
    obtain ⟨r11, h12, h⟩ := zb_e h
    refine zr_callSi (n := 2) (As := [.int (r8 >>> (3 &&& 31)), .int 32]) C (c_L_below l D cy hZ (r8 >>> (3 &&& 31)) 32 I A h12) wd_528 wd_529 wd_0 wd_530 (by decide +kernel) ⟨(Nat.le_trans (Nat.le_of_ble_eq_true rfl) hRf), (Nat.le_trans (Nat.le_of_ble_eq_true rfl) hRl)⟩ rfl rfl hRc rfl rfl (Nat.le_of_ble_eq_true rfl) dL_law_37 ?_
    refine zr_iand C dL_law_40 ?_
    refine zr_aload_n C 0 rfl rfl dL_law_41 ?_
    refine zr_iload_n C 2 rfl rfl dL_law_42 ?_
    obtain ⟨r14, h15, h⟩ := zb_e h
    refine zr_callC (n := 2) (As := [.ref v0, .int v2]) C (c_L_cell l D cy hZ Ln xs v0 hXL v2 I A h15) hX hXb hXL wd_532 wd_533 wd_0 wd_534 (by decide +kernel) ⟨(Nat.le_trans (Nat.le_of_ble_eq_true rfl) hRf), (Nat.le_trans (Nat.le_of_ble_eq_true rfl) hRl)⟩ rfl rfl hRc rfl rfl (Nat.le_of_ble_eq_true rfl) dL_law_43 ?_
    refine zr_iconst (v := 5) C (by decide) dL_law_46 ?_
    refine zr_ishr C dL_law_47 ?_
    refine zr_bipush (v := 32) C (by decide) dL_law_48 ?_
    obtain ⟨r17, h18, h⟩ := zb_e h
    refine zr_callSi (n := 2) (As := [.int (r14 >>> (5 &&& 31)), .int 32]) C (c_L_below l D cy hZ (r14 >>> (5 &&& 31)) 32 I A h18) wd_528 wd_529 wd_0 wd_530 (by decide +kernel) ⟨(Nat.le_trans (Nat.le_of_ble_eq_true rfl) hRf), (Nat.le_trans (Nat.le_of_ble_eq_true rfl) hRl)⟩ rfl rfl hRc rfl rfl (Nat.le_of_ble_eq_true rfl) dL_law_50 ?_
    refine zr_aload_n C 0 rfl rfl dL_law_53 ?_
    refine zr_iload_n C 2 rfl rfl dL_law_54 ?_
    refine zr_iconst (v := 2) C (by decide) dL_law_55 ?_
    refine zr_iadd C dL_law_56 ?_
    obtain ⟨r20, h21, h⟩ := zb_e h
    refine zr_callC (n := 2) (As := [.ref v0, .int (v2 + 2)]) C (c_L_cell l D cy hZ Ln xs v0 hXL (v2 + 2) I A h21) hX hXb hXL wd_532 wd_533 wd_0 wd_534 (by decide +kernel) ⟨(Nat.le_trans (Nat.le_of_ble_eq_true rfl) hRf), (Nat.le_trans (Nat.le_of_ble_eq_true rfl) hRl)⟩ rfl rfl hRc rfl rfl (Nat.le_of_ble_eq_true rfl) dL_law_57 ?_
    refine zr_iconst (v := 2) C (by decide) dL_law_60 ?_
    refine zr_ishr C dL_law_61 ?_
    refine zr_bipush (v := 32) C (by decide) dL_law_62 ?_
    obtain ⟨r23, h24, h⟩ := zb_e h
    refine zr_callSi (n := 2) (As := [.int (r20 >>> (2 &&& 31)), .int 32]) C (c_L_below l D cy hZ (r20 >>> (2 &&& 31)) 32 I A h24) wd_528 wd_529 wd_0 wd_530 (by decide +kernel) ⟨(Nat.le_trans (Nat.le_of_ble_eq_true rfl) hRf), (Nat.le_trans (Nat.le_of_ble_eq_true rfl) hRl)⟩ rfl rfl hRc rfl rfl (Nat.le_of_ble_eq_true rfl) dL_law_64 ?_
    refine zr_iand C dL_law_67 ?_
    refine zr_aload_n C 0 rfl rfl dL_law_68 ?_
    refine zr_iload_n C 2 rfl rfl dL_law_69 ?_
    obtain ⟨r26, h27, h⟩ := zb_e h
    refine zr_callC (n := 2) (As := [.ref v0, .int v2]) C (c_L_cell l D cy hZ Ln xs v0 hXL v2 I A h27) hX hXb hXL wd_532 wd_533 wd_0 wd_534 (by decide +kernel) ⟨(Nat.le_trans (Nat.le_of_ble_eq_true rfl) hRf), (Nat.le_trans (Nat.le_of_ble_eq_true rfl) hRl)⟩ rfl rfl hRc rfl rfl (Nat.le_of_ble_eq_true rfl) dL_law_70 ?_
    refine zr_iconst (v := 4) C (by decide) dL_law_73 ?_
    refine zr_ishr C dL_law_74 ?_
    refine zr_iconst (v := 3) C (by decide) dL_law_75 ?_
    obtain ⟨r29, h30, h⟩ := zb_e h
    refine zr_callSi (n := 2) (As := [.int (r26 >>> (4 &&& 31)), .int 3]) C (c_L_below l D cy hZ (r26 >>> (4 &&& 31)) 3 I A h30) wd_528 wd_529 wd_0 wd_530 (by decide +kernel) ⟨(Nat.le_trans (Nat.le_of_ble_eq_true rfl) hRf), (Nat.le_trans (Nat.le_of_ble_eq_true rfl) hRl)⟩ rfl rfl hRc rfl rfl (Nat.le_of_ble_eq_true rfl) dL_law_76 ?_
    refine zr_if_ne (tgt := 86) C (by decide) dL_law_79 (fun hc32 => ?_) (fun hc32 => ?_)
    · have h := zif_f hc32 h
      refine zr_iconst (v := 0) C (by decide) dL_law_86 ?_
      refine zr_aload_n C 0 rfl rfl dL_law_87 ?_
      refine zr_iload_n C 2 rfl rfl dL_law_88 ?_
      obtain ⟨r33, h34, h⟩ := zb_e h
      refine zr_callC (n := 2) (As := [.ref v0, .int v2]) C (c_L_cell l D cy hZ Ln xs v0 hXL v2 I A h34) hX hXb hXL wd_532 wd_533 wd_0 wd_534 (by decide +kernel) ⟨(Nat.le_trans (Nat.le_of_ble_eq_true rfl) hRf), (Nat.le_trans (Nat.le_of_ble_eq_true rfl) hRl)⟩ rfl rfl hRc rfl rfl (Nat.le_of_ble_eq_true rfl) dL_law_89 ?_
      refine zr_bipush (v := 6) C (by decide) dL_law_92 ?_
      refine zr_ishr C dL_law_94 ?_
      refine zr_iconst (v := 3) C (by decide) dL_law_95 ?_
      obtain ⟨r36, h37, h⟩ := zb_e h
      refine zr_callSi (n := 2) (As := [.int (r33 >>> (6 &&& 31)), .int 3]) C (c_L_below l D cy hZ (r33 >>> (6 &&& 31)) 3 I A h37) wd_528 wd_529 wd_0 wd_530 (by decide +kernel) ⟨(Nat.le_trans (Nat.le_of_ble_eq_true rfl) hRf), (Nat.le_trans (Nat.le_of_ble_eq_true rfl) hRl)⟩ rfl rfl hRc rfl rfl (Nat.le_of_ble_eq_true rfl) dL_law_96 ?_
      obtain ⟨r39, I40, A41, h42, h⟩ := zb3_e h
      refine zr_callVi (n := 4) (As := [.int (r5 &&& r11), .int (r17 &&& r23), .int 0, .int r36]) C (c_X5_licence l D cy hZ v1 (r5 &&& r11) (r17 &&& r23) 0 r36 k1 I A h42) wd_417 wd_418 wd_419 wd_1 wd_420 (by decide +kernel) ⟨(Nat.le_trans (Nat.le_of_ble_eq_true rfl) hRf), (Nat.le_trans (Nat.le_of_ble_eq_true rfl) hRl)⟩ rfl rfl hRc k1 (by decide) rfl rfl rfl (Nat.le_of_ble_eq_true rfl) dL_law_99 ?_
      refine zr_iload_n C 2 rfl rfl dL_law_102 ?_
      refine zr_icmp_eq (tgt := 108) C (by decide) dL_law_103 (fun hc44 => ?_) (fun hc44 => ?_)
      · have h := zif_t hc44 h
        refine zr_iinc (v := v2 + 1) (lv' := [(2, .int (v2 + 1)), (0, .ref v0), (1, .ref v1)]) C 2 rfl rfl (by decide) rfl dL_law_108 ?_
        refine zr_goto (tgt := 10) C (by decide) dL_law_111 ?_
        obtain rfl := zso h
        refine zr_lv (lv' := [(0, .ref v0), (1, .ref v1), (2, .int (v2 + 1))]) C [1, 2, 0] rfl ?_
        exact hg _ rfl
      · have h := zif_f hc44 h
        refine zr_iconst (v := 0) C (by decide) dL_law_106 ?_
        exact zno h
    · have h := zif_t hc32 h
      refine zr_iconst (v := 1) C (by decide) dL_law_82 ?_
      refine zr_goto (tgt := 87) C (by decide) dL_law_83 ?_
      refine zr_aload_n C 0 rfl rfl dL_law_87 ?_
      refine zr_iload_n C 2 rfl rfl dL_law_88 ?_
      obtain ⟨r45, h46, h⟩ := zb_e h
      refine zr_callC (n := 2) (As := [.ref v0, .int v2]) C (c_L_cell l D cy hZ Ln xs v0 hXL v2 I A h46) hX hXb hXL wd_532 wd_533 wd_0 wd_534 (by decide +kernel) ⟨(Nat.le_trans (Nat.le_of_ble_eq_true rfl) hRf), (Nat.le_trans (Nat.le_of_ble_eq_true rfl) hRl)⟩ rfl rfl hRc rfl rfl (Nat.le_of_ble_eq_true rfl) dL_law_89 ?_
      refine zr_bipush (v := 6) C (by decide) dL_law_92 ?_
      refine zr_ishr C dL_law_94 ?_
      refine zr_iconst (v := 3) C (by decide) dL_law_95 ?_
      obtain ⟨r48, h49, h⟩ := zb_e h
      refine zr_callSi (n := 2) (As := [.int (r45 >>> (6 &&& 31)), .int 3]) C (c_L_below l D cy hZ (r45 >>> (6 &&& 31)) 3 I A h49) wd_528 wd_529 wd_0 wd_530 (by decide +kernel) ⟨(Nat.le_trans (Nat.le_of_ble_eq_true rfl) hRf), (Nat.le_trans (Nat.le_of_ble_eq_true rfl) hRl)⟩ rfl rfl hRc rfl rfl (Nat.le_of_ble_eq_true rfl) dL_law_96 ?_
      obtain ⟨r51, I52, A53, h54, h⟩ := zb3_e h
      refine zr_callVi (n := 4) (As := [.int (r5 &&& r11), .int (r17 &&& r23), .int 1, .int r48]) C (c_X5_licence l D cy hZ v1 (r5 &&& r11) (r17 &&& r23) 1 r48 k1 I A h54) wd_417 wd_418 wd_419 wd_1 wd_420 (by decide +kernel) ⟨(Nat.le_trans (Nat.le_of_ble_eq_true rfl) hRf), (Nat.le_trans (Nat.le_of_ble_eq_true rfl) hRl)⟩ rfl rfl hRc k1 (by decide) rfl rfl rfl (Nat.le_of_ble_eq_true rfl) dL_law_99 ?_
      refine zr_iload_n C 2 rfl rfl dL_law_102 ?_
      refine zr_icmp_eq (tgt := 108) C (by decide) dL_law_103 (fun hc56 => ?_) (fun hc56 => ?_)
      · have h := zif_t hc56 h
        refine zr_iinc (v := v2 + 1) (lv' := [(2, .int (v2 + 1)), (0, .ref v0), (1, .ref v1)]) C 2 rfl rfl (by decide) rfl dL_law_108 ?_
        refine zr_goto (tgt := 10) C (by decide) dL_law_111 ?_
        obtain rfl := zso h
        refine zr_lv (lv' := [(0, .ref v0), (1, .ref v1), (2, .int (v2 + 1))]) C [1, 2, 0] rfl ?_
        exact hg _ rfl
      · have h := zif_f hc56 h
        refine zr_iconst (v := 0) C (by decide) dL_law_106 ?_
        exact zno h
set_option maxHeartbeats 4000000 in
set_option maxRecDepth 100000 in
theorem w_L_law_10 (l : Launch) (D : va_G) (cy : Nat → ClassId) {L : List Nat} {K N : Nat → Nat} {F G : Nat → Nat → Nat} (hZ : ZL L K N F G) {p : Program} {e : Env} {R : Room} {s : State} {m : MethodId} {args : Array Value} {below : List Frame} {meth : Method} {c : Code} {cells slots : Nat} {Q : State → Prop} (C : ZC p s m args meth c cL_law yL_law.cls 17 D cy L K N F G) (hRf : 7 ≤ R.frames) (hRl : 164 ≤ R.locals) (hRc : cells ≤ R.cells ∧ slots ≤ R.slots)  (Ln : Nat) (xs : Nat → Int32) (v0 : Nat) (v1 : Nat) (hX : va_X v0 Ln xs s s.heap) (hXb : v0 < s.heap.size) (hXL : v0 ∉ L) (k1 : K v1 = 5) (n : Nat) (x : Int32 × zH × zH) (o : Int32 × zH × zH) (h : zIt (fun x => g_L_law_10 F G Ln xs v1 x.1 x.2.1 x.2.2 ) n x = some o)
    (hx : ZW p l e R s m args below meth c 17 D cy L K N F G cells slots Q o.2.1 o.2.2 114 [(0, .ref v0), (1, .ref v1), (2, .int o.1)] []) : ZW p l e R s m args below meth c 17 D cy L K N F G cells slots Q x.2.1 x.2.2 10 [(0, .ref v0), (1, .ref v1), (2, .int x.1)] [] := by
  induction n generalizing x with
  | zero => cases h
  | succ n ih =>
    unfold zIt at h
    cases hb : g_L_law_10 F G Ln xs v1 x.1 x.2.1 x.2.2  with
    | none => rw [hb] at h; cases h
    | some q =>
      rw [hb] at h
      refine wb_L_law_10 l D cy hZ C hRf hRl hRc Ln xs v0 v1 hX hXb hXL k1 x.1 x.2.1 x.2.2 q hb (fun y hy => ?_) (fun y hy => ?_)
      · subst hy; exact ih y h
      · subst hy; cases h; exact hx

def f_L_law (F G : Nat → Nat → Nat) (Ln : Nat) (xs : Nat → Int32) (v1 : Nat) (I A : zH) : Option (zH × zH) :=
  zb3 (zIt (fun x => g_L_law_10 F G Ln xs v1 x.1 x.2.1 x.2.2 ) 2000 (0, I, A)) fun i1 I2 A3 =>
  zb2 (f_X5_project F G v1 I2 A3) fun r4 I5 =>
  if r4 = 0 then (
    zb2 (f_X5_project F G v1 I5 A3) fun r9 I10 =>
    if r9 = 1 then (
      zb3 (zIt (fun x => g_L_law_133 F G Ln xs v1 x.1 x.2.1 x.2.2) 61 (0, I10, A3)) fun i99 I99 A99 =>
      zb2 (f_L_isFair F G v1 I99 A99) fun r14 A15 =>
      zck (r14 = 1) <|
      some (I99, A15)
    ) else (
      none
    )
  ) else (
    none
  )
set_option maxHeartbeats 4000000 in
set_option maxRecDepth 100000 in
theorem w_L_law (l : Launch) (D : va_G) (cy : Nat → ClassId) {L : List Nat} {K N : Nat → Nat} {F G : Nat → Nat → Nat} (hZ : ZL L K N F G) {p : Program} {e : Env} {R : Room} {s : State} {m : MethodId} {args : Array Value} {below : List Frame} {meth : Method} {c : Code} {cells slots : Nat} {Q : State → Prop} (C : ZC p s m args meth c cL_law RL 17 D cy L K N F G) (hRf : 8 ≤ R.frames) (hRl : 195 ≤ R.locals) (hRn : cells + 61 ≤ R.cells ∧ slots + 10 * 61 ≤ R.slots) (Ln : Nat) (xs : Nat → Int32) (v0 v1 : Nat) (hX : va_X v0 Ln xs s s.heap) (hXb : v0 < s.heap.size) (hXL : v0 ∉ L) (k1 : K v1 = 5) (I A I' A' : zH) (h : f_L_law F G Ln xs v1 I A = some (I', A'))
    (hend : ∀ (cs ss : Nat) (lv : List (Nat × Value)), cs ≤ cells + 61 → ss ≤ slots + 10 * 61 → ZW p l e R s m args below meth c 17 D cy L K N F G cs ss Q I' A' 726 lv [.int 1]) : ZW p l e R s m args below meth c 17 D cy L K N F G cells slots Q I A 8 [(1, .ref v1), (0, .ref v0)] [] := by
  have hRc : cells ≤ R.cells ∧ slots ≤ R.slots := ⟨by omega, by omega⟩
  unfold f_L_law at h
  refine zr_iconst (v := 0) C (by decide) dL_law_8 ?_
  refine zr_istore_n (lv' := [(2, .int 0), (1, .ref v1), (0, .ref v0)]) C rfl (by decide) rfl dL_law_9 ?_
  obtain ⟨i1, I2, A3, h18, h⟩ := zb3_e h
  refine zr_lv (lv' := [(0, .ref v0), (1, .ref v1), (2, .int 0)]) C [2, 1, 0] rfl ?_
  refine w_L_law_10 l D cy hZ C (Nat.le_trans (Nat.le_of_ble_eq_true rfl) hRf) (Nat.le_trans (Nat.le_of_ble_eq_true rfl) hRl) hRc Ln xs v0 v1 hX hXb hXL k1  2000 (0, I, A) (i1, I2, A3) h18 ?_
  refine zr_aload_n C 1 rfl rfl dL_law_114 ?_
  obtain ⟨r4, I5, h6, h⟩ := zb2_e h
  refine zr_callVi (n := 0) (As := []) C (c_X5_project l D cy hZ v1 k1 I2 A3 h6) wd_455 wd_456 wd_457 wd_1 wd_458 (by decide +kernel) ⟨(Nat.le_trans (Nat.le_of_ble_eq_true rfl) hRf), (Nat.le_trans (Nat.le_of_ble_eq_true rfl) hRl)⟩ rfl rfl hRc k1 (by decide) rfl rfl rfl (Nat.le_of_ble_eq_true rfl) dL_law_115 ?_
  refine zr_if_ne (tgt := 129) C (by decide) dL_law_118 (fun hc8 => ?_) (fun hc8 => ?_)
  · have h := zif_f hc8 h
    refine zr_iconst (v := 0) C (by decide) dL_law_129 ?_
    exact zno h
  · have h := zif_t hc8 h
    refine zr_aload_n C 1 rfl rfl dL_law_121 ?_
    obtain ⟨r9, I10, h11, h⟩ := zb2_e h
    refine zr_callVi (n := 0) (As := []) C (c_X5_project l D cy hZ v1 k1 I5 A3 h11) wd_455 wd_456 wd_457 wd_1 wd_458 (by decide +kernel) ⟨(Nat.le_trans (Nat.le_of_ble_eq_true rfl) hRf), (Nat.le_trans (Nat.le_of_ble_eq_true rfl) hRl)⟩ rfl rfl hRc k1 (by decide) rfl rfl rfl (Nat.le_of_ble_eq_true rfl) dL_law_122 ?_
    refine zr_iconst (v := 1) C (by decide) dL_law_125 ?_
    refine zr_icmp_eq (tgt := 131) C (by decide) dL_law_126 (fun hc13 => ?_) (fun hc13 => ?_)
    · have h := zif_t hc13 h
      refine zr_iconst (v := 0) C (by decide) dL_law_131 ?_
      refine zr_istore_n (lv' := [(2, .int 0), (0, .ref v0), (1, .ref v1)]) C rfl (by decide) rfl dL_law_132 ?_
      obtain ⟨i99, I99, A99, h99, h⟩ := zb3_e h
      refine zr_lv (lv' := [(0, .ref v0), (1, .ref v1), (2, .int 0)]) C [1, 2, 0] rfl ?_
      refine w_L_law_133 l D cy hZ C (Nat.le_trans (Nat.le_of_ble_eq_true rfl) hRf) (Nat.le_trans (Nat.le_of_ble_eq_true rfl) hRl) Ln xs v0 v1 hX hXb hXL k1 61 cells slots (0, I10, A3) (i99, I99, A99) hRn h99 (fun cs ss hcs hss => ?_)
      have hRe : cs ≤ R.cells ∧ ss ≤ R.slots := ⟨by omega, by omega⟩
      refine zr_aload_n C 1 rfl rfl dL_law_722 ?_
      obtain ⟨r14, A15, h16, h⟩ := zb2_e h
      refine zr_callSi (n := 1) (As := [.ref v1]) C (c_L_isFair l D cy hZ v1 k1 I99 A99 h16) wd_590 wd_591 wd_0 wd_592 (by decide +kernel) ⟨(Nat.le_trans (Nat.le_of_ble_eq_true rfl) hRf), (Nat.le_trans (Nat.le_of_ble_eq_true rfl) hRl)⟩ rfl rfl hRe rfl rfl (Nat.le_of_ble_eq_true rfl) dL_law_723 ?_
      obtain ⟨hr1, h⟩ := zck_e h
      cases zso h
      subst hr1
      exact hend cs ss _ hcs hss
    · have h := zif_f hc13 h
      refine zr_iconst (v := 0) C (by decide) dL_law_129 ?_
      exact zno h
