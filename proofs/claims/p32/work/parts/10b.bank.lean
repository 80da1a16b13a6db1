def g_X5_foldPiece_6 (F G : Nat → Nat → Nat) (v0 : Nat) (v3 : Int32) (v4 : Int64) (v6 : Int32) (I : zH) (A : zH) : Option ((Int64 × Int32) ⊕ (Int64 × Int32)) :=
  if 8 ≤ v6 then (
    some (.inr (v4, v6))
  ) else (
    zb (f_X5_ofPiece F G v0 v3 v6 I A) fun r2 =>
    zb (f_X5_fold F G v4 r2 I A) fun r5 =>
    some (.inl (r5, v6 + 1))
  )
def f_X5_foldPiece (F G : Nat → Nat → Nat) (h0 : Nat) (p0 : Int64) (p1 : Int32) (I A : zH) : Option (Int64) :=
  zb2 (zIt (fun x => g_X5_foldPiece_6 F G h0 p1 x.1 x.2 I A) 2000 (p0, 0)) fun j1 i2 =>
  zb (f_X5_scan F G h0 p1 I A) fun r3 =>
  zb (f_X5_fold F G j1 r3 I A) fun r6 =>
  if (I h0 8) ≤ (p1 + 1) then (
    some r6
  ) else (
    zb (f_X5_share F G h0 p1 (p1 + 1) I A) fun r10 =>
    zb (f_X5_fold F G r6 r10 I A) fun r13 =>
    some r13
  )
set_option maxHeartbeats 4000000 in
set_option maxRecDepth 100000 in
theorem wb_X5_foldPiece_6 (l : Launch) (D : va_G) (cy : Nat → ClassId) {L : List Nat} {K N : Nat → Nat} {F G : Nat → Nat → Nat} (hZ : ZL L K N F G) {p : Program} {e : Env} {R : Room} {s : State} {m : MethodId} {args : Array Value} {below : List Frame} {meth : Method} {c : Code} {cells slots : Nat} {Q : State → Prop} (C : ZC p s m args meth c cX5_foldPiece yX5_foldPiece.cls 7 D cy L K N F G) (hRf : 4 ≤ R.frames) (hRl : 90 ≤ R.locals) (hRc : cells ≤ R.cells ∧ slots ≤ R.slots)  (v0 : Nat) (v3 : Int32) (k0 : K v0 = 5) (I : zH) (A : zH) (v4 : Int64) (v6 : Int32) (o : (Int64 × Int32) ⊕ (Int64 × Int32)) (h : g_X5_foldPiece_6 F G v0 v3 v4 v6 I A = some o)
    (hg : ∀ y : Int64 × Int32, o = .inl y → ZW p l e R s m args below meth c 7 D cy L K N F G cells slots Q I A 6 [(0, .ref v0), (3, .int v3), (4, .long y.1), (6, .int y.2)] [])
    (hx : ∀ y : Int64 × Int32, o = .inr y → ZW p l e R s m args below meth c 7 D cy L K N F G cells slots Q I A 33 [(0, .ref v0), (3, .int v3), (4, .long y.1), (6, .int y.2)] []) : ZW p l e R s m args below meth c 7 D cy L K N F G cells slots Q I A 6 [(0, .ref v0), (3, .int v3), (4, .long v4), (6, .int v6)] [] := by
  unfold g_X5_foldPiece_6 at h
  refine zr_iload C 3 rfl dX5_foldPiece_6 ?_
  refine zr_bipush (v := 8) C (by decide) dX5_foldPiece_8 ?_
  refine zr_icmp_ge (tgt := 33) C (by decide) dX5_foldPiece_10 (fun hc1 => ?_) (fun hc1 => ?_)
  · have h := zif_t hc1 h
    obtain rfl := zso h
    refine zr_lv (lv' := [(0, .ref v0), (3, .int v3), (4, .long v4), (6, .int v6)]) C [0, 1, 2, 3] rfl ?_
    exact hx _ rfl
  · have h := zif_f hc1 h
    refine zr_lload C 2 rfl dX5_foldPiece_13 ?_
    refine zr_aload_n C 0 rfl rfl dX5_foldPiece_15 ?_
    refine zr_iload_n C 1 rfl rfl dX5_foldPiece_16 ?_
    refine zr_iload C 3 rfl dX5_foldPiece_17 ?_
    obtain ⟨r2, h3, h⟩ := zb_e h
    refine zr_callVi (n := 2) (As := [.int v3, .int v6]) C (c_X5_ofPiece l D cy hZ v0 v3 v6 k0 I A h3) wd_607 wd_365 wd_366 wd_1 wd_367 (by decide +kernel) ⟨(Nat.le_trans (Nat.le_of_ble_eq_true rfl) hRf), (Nat.le_trans (Nat.le_of_ble_eq_true rfl) hRl)⟩ rfl rfl hRc k0 (by decide) rfl rfl rfl (Nat.le_of_ble_eq_true rfl) dX5_foldPiece_19 ?_
    obtain ⟨r5, h6, h⟩ := zb_e h
    refine zr_callSl (n := 2) (As := [.long v4, .int r2]) C (c_X5_fold l D cy hZ v4 r2 I A h6) wd_599 wd_600 wd_1 wd_601 (by decide +kernel) ⟨(Nat.le_trans (Nat.le_of_ble_eq_true rfl) hRf), (Nat.le_trans (Nat.le_of_ble_eq_true rfl) hRl)⟩ rfl rfl hRc rfl rfl (Nat.le_of_ble_eq_true rfl) dX5_foldPiece_22 ?_
    refine zr_lstore (lv' := [(4, .long r5), (0, .ref v0), (3, .int v3), (6, .int v6)]) C (by decide) rfl dX5_foldPiece_25 ?_
    refine zr_iinc (v := v6 + 1) (lv' := [(6, .int (v6 + 1)), (4, .long r5), (0, .ref v0), (3, .int v3)]) C 3 rfl rfl (by decide) rfl dX5_foldPiece_27 ?_
    refine zr_goto (tgt := 6) C (by decide) dX5_foldPiece_30 ?_
    obtain rfl := zso h
    refine zr_lv (lv' := [(0, .ref v0), (3, .int v3), (4, .long r5), (6, .int (v6 + 1))]) C [2, 3, 1, 0] rfl ?_
    exact hg _ rfl
set_option maxHeartbeats 4000000 in
set_option maxRecDepth 100000 in
theorem w_X5_foldPiece_6 (l : Launch) (D : va_G) (cy : Nat → ClassId) {L : List Nat} {K N : Nat → Nat} {F G : Nat → Nat → Nat} (hZ : ZL L K N F G) {p : Program} {e : Env} {R : Room} {s : State} {m : MethodId} {args : Array Value} {below : List Frame} {meth : Method} {c : Code} {cells slots : Nat} {Q : State → Prop} (C : ZC p s m args meth c cX5_foldPiece yX5_foldPiece.cls 7 D cy L K N F G) (hRf : 4 ≤ R.frames) (hRl : 90 ≤ R.locals) (hRc : cells ≤ R.cells ∧ slots ≤ R.slots)  (v0 : Nat) (v3 : Int32) (k0 : K v0 = 5) (I : zH) (A : zH) (n : Nat) (x : Int64 × Int32) (o : Int64 × Int32) (h : zIt (fun x => g_X5_foldPiece_6 F G v0 v3 x.1 x.2 I A) n x = some o)
    (hx : ZW p l e R s m args below meth c 7 D cy L K N F G cells slots Q I A 33 [(0, .ref v0), (3, .int v3), (4, .long o.1), (6, .int o.2)] []) : ZW p l e R s m args below meth c 7 D cy L K N F G cells slots Q I A 6 [(0, .ref v0), (3, .int v3), (4, .long x.1), (6, .int x.2)] [] := by
  induction n generalizing x with
  | zero => cases h
  | succ n ih =>
    unfold zIt at h
    cases hb : g_X5_foldPiece_6 F G v0 v3 x.1 x.2 I A with
    | none => rw [hb] at h; cases h
    | some q =>
      rw [hb] at h
      refine wb_X5_foldPiece_6 l D cy hZ C hRf hRl hRc v0 v3 k0 I A x.1 x.2 q hb (fun y hy => ?_) (fun y hy => ?_)
      · subst hy; exact ih y h
      · subst hy; cases h; exact hx
set_option maxHeartbeats 4000000 in
set_option maxRecDepth 100000 in
theorem c_X5_foldPiece (l : Launch) (D : va_G) (cy : Nat → ClassId) {L : List Nat} {K N : Nat → Nat} {F G : Nat → Nat → Nat} (hZ : ZL L K N F G) (h0 : Nat) (p0 : Int64) (p1 : Int32) (k_h0 : K h0 = 5) (I A : zH) {r : Int64} (h : f_X5_foldPiece F G h0 p0 p1 I A = some r) : ZMl l yX5_foldPiece cX5_foldPiece 7 (some .long) { frames := 4, cells := 0, slots := 0, locals := 90 } D cy L K N F G [.ref h0, .long p0, .int p1] I A r I A := by
  refine ZMl.of (nL := 7) hZ rfl rfl (by decide) (Nat.le_of_ble_eq_true rfl) (fun p e s m args below meth c C hr => ?_)
  unfold f_X5_foldPiece at h
  refine zr_lv (lv' := [(0, .ref h0), (1, .long p0), (3, .int p1)]) C [0, 1, 2] rfl ?_
  refine zr_lload_n C 1 rfl rfl dX5_foldPiece_0 ?_
  refine zr_lstore (lv' := [(4, .long p0), (0, .ref h0), (1, .long p0), (3, .int p1)]) C (by decide) rfl dX5_foldPiece_1 ?_
  refine zr_iconst (v := 0) C (by decide) dX5_foldPiece_3 ?_
  refine zr_istore (lv' := [(6, .int 0), (4, .long p0), (0, .ref h0), (1, .long p0), (3, .int p1)]) C (by decide) rfl dX5_foldPiece_4 ?_
  obtain ⟨j1, i2, h16, h⟩ := zb2_e h
  refine zr_lv (lv' := [(0, .ref h0), (3, .int p1), (4, .long p0), (6, .int 0)]) C [2, 4, 1, 0] rfl ?_
  refine w_X5_foldPiece_6 l D cy hZ C (Nat.le_of_ble_eq_true rfl) (Nat.le_of_ble_eq_true rfl) ⟨Nat.le_of_ble_eq_true rfl, Nat.le_of_ble_eq_true rfl⟩ h0 p1 k_h0 I A 2000 (p0, 0) (j1, i2) h16 ?_
  refine zr_lload C 2 rfl dX5_foldPiece_33 ?_
  refine zr_aload_n C 0 rfl rfl dX5_foldPiece_35 ?_
  refine zr_iload_n C 1 rfl rfl dX5_foldPiece_36 ?_
  obtain ⟨r3, h4, h⟩ := zb_e h
  refine zr_callVi (n := 1) (As := [.int p1]) C (c_X5_scan l D cy hZ h0 p1 k_h0 I A h4) wd_608 wd_545 wd_546 wd_1 wd_547 (by decide +kernel) ⟨(Nat.le_of_ble_eq_true rfl), (Nat.le_of_ble_eq_true rfl)⟩ rfl rfl ⟨Nat.le_of_ble_eq_true rfl, Nat.le_of_ble_eq_true rfl⟩ k_h0 (by decide) rfl rfl rfl (Nat.le_of_ble_eq_true rfl) dX5_foldPiece_37 ?_
  obtain ⟨r6, h7, h⟩ := zb_e h
  refine zr_callSl (n := 2) (As := [.long j1, .int r3]) C (c_X5_fold l D cy hZ j1 r3 I A h7) wd_599 wd_600 wd_1 wd_601 (by decide +kernel) ⟨(Nat.le_of_ble_eq_true rfl), (Nat.le_of_ble_eq_true rfl)⟩ rfl rfl ⟨Nat.le_of_ble_eq_true rfl, Nat.le_of_ble_eq_true rfl⟩ rfl rfl (Nat.le_of_ble_eq_true rfl) dX5_foldPiece_40 ?_
  refine zr_lstore (lv' := [(4, .long r6), (0, .ref h0), (3, .int p1), (6, .int i2)]) C (by decide) rfl dX5_foldPiece_43 ?_
  refine zr_iload_n C 2 rfl rfl dX5_foldPiece_45 ?_
  refine zr_iconst (v := 1) C (by decide) dX5_foldPiece_46 ?_
  refine zr_iadd C dX5_foldPiece_47 ?_
  refine zr_aload_n C 1 rfl rfl dX5_foldPiece_48 ?_
  refine zr_get (ci := 5) (k := 8) (v := .int (I h0 8)) C k_h0 (by decide) rfl zinX5 (by decide) wd_166 rfl dX5_foldPiece_49 ?_
  refine zr_icmp_ge (tgt := 70) C (by decide) dX5_foldPiece_52 (fun hc9 => ?_) (fun hc9 => ?_)
  · have h := zif_t hc9 h
    refine zr_lload C 0 rfl dX5_foldPiece_70 ?_
    obtain rfl := zso h
    exact zr_lret C hr dX5_foldPiece_72
  · have h := zif_f hc9 h
    refine zr_lload C 0 rfl dX5_foldPiece_55 ?_
    refine zr_aload_n C 1 rfl rfl dX5_foldPiece_57 ?_
    refine zr_iload_n C 2 rfl rfl dX5_foldPiece_58 ?_
    refine zr_iload_n C 2 rfl rfl dX5_foldPiece_59 ?_
    refine zr_iconst (v := 1) C (by decide) dX5_foldPiece_60 ?_
    refine zr_iadd C dX5_foldPiece_61 ?_
    obtain ⟨r10, h11, h⟩ := zb_e h
    refine zr_callVi (n := 2) (As := [.int p1, .int (p1 + 1)]) C (c_X5_share l D cy hZ h0 p1 (p1 + 1) k_h0 I A h11) wd_609 wd_610 wd_611 wd_1 wd_612 (by decide +kernel) ⟨(Nat.le_of_ble_eq_true rfl), (Nat.le_of_ble_eq_true rfl)⟩ rfl rfl ⟨Nat.le_of_ble_eq_true rfl, Nat.le_of_ble_eq_true rfl⟩ k_h0 (by decide) rfl rfl rfl (Nat.le_of_ble_eq_true rfl) dX5_foldPiece_62 ?_
    obtain ⟨r13, h14, h⟩ := zb_e h
    refine zr_callSl (n := 2) (As := [.long r6, .int r10]) C (c_X5_fold l D cy hZ r6 r10 I A h14) wd_599 wd_600 wd_1 wd_601 (by decide +kernel) ⟨(Nat.le_of_ble_eq_true rfl), (Nat.le_of_ble_eq_true rfl)⟩ rfl rfl ⟨Nat.le_of_ble_eq_true rfl, Nat.le_of_ble_eq_true rfl⟩ rfl rfl (Nat.le_of_ble_eq_true rfl) dX5_foldPiece_65 ?_
    refine zr_lstore (lv' := [(4, .long r13), (0, .ref h0), (3, .int p1), (6, .int i2)]) C (by decide) rfl dX5_foldPiece_68 ?_
    refine zr_lload C 0 rfl dX5_foldPiece_70 ?_
    obtain rfl := zso h
    exact zr_lret C hr dX5_foldPiece_72

def f_X5_needLicence (F G : Nat → Nat → Nat) (h0 : Nat) (p0 : Int32) (I A : zH) : Option (Unit) :=
  if p0 < 0 then (
    none
  ) else (
    if p0 < (I h0 9) then (
      some ()
    ) else (
      none
    )
  )
set_option maxHeartbeats 4000000 in
set_option maxRecDepth 100000 in
theorem c_X5_needLicence (l : Launch) (D : va_G) (cy : Nat → ClassId) {L : List Nat} {K N : Nat → Nat} {F G : Nat → Nat → Nat} (hZ : ZL L K N F G) (h0 : Nat) (p0 : Int32) (k_h0 : K h0 = 5) (I A : zH) (h : f_X5_needLicence F G h0 p0 I A = some ()) : ZMv l yX5_needLicence cX5_needLicence 2 none { frames := 0, cells := 0, slots := 0, locals := 0 } D cy L K N F G [.ref h0, .int p0] I A I A := by
  refine ZMv.of (nL := 2) hZ rfl rfl (by decide) (Nat.le_of_ble_eq_true rfl) (fun p e s m args below meth c C hr => ?_)
  unfold f_X5_needLicence at h
  refine zr_lv (lv' := [(0, .ref h0), (1, .int p0)]) C [0, 1] rfl ?_
  refine zr_iload_n C 1 rfl rfl dX5_needLicence_0 ?_
  refine zr_if_lt (tgt := 12) C (by decide) dX5_needLicence_1 (fun hc1 => ?_) (fun hc1 => ?_)
  · have h := zif_t hc1 h
    exact zno h
  · have h := zif_f hc1 h
    refine zr_iload_n C 1 rfl rfl dX5_needLicence_4 ?_
    refine zr_aload_n C 0 rfl rfl dX5_needLicence_5 ?_
    refine zr_get (ci := 5) (k := 9) (v := .int (I h0 9)) C k_h0 (by decide) rfl zinX5 (by decide) wd_167 rfl dX5_needLicence_6 ?_
    refine zr_icmp_lt (tgt := 23) C (by decide) dX5_needLicence_9 (fun hc2 => ?_) (fun hc2 => ?_)
    · have h := zif_t hc2 h
      exact zr_vret C hr dX5_needLicence_23
    · have h := zif_f hc2 h
      exact zno h

def g_X5_piecesBoundBy_4 (F G : Nat → Nat → Nat) (v0 : Nat) (v1 : Int32) (v2 : Int32) (v3 : Int32) (I : zH) (A : zH) : Option ((Int32 × Int32) ⊕ (Int32 × Int32)) :=
  if (I v0 8) ≤ v3 then (
    some (.inr (v2, v3))
  ) else (
    zb (f_X0_licencesOf F G (F v0 6) v3 I A) fun r2 =>
    zb (f_X5_hasBit F G r2 v1 I A) fun r5 =>
    if r5 = 0 then (
      some (.inl (v2, v3 + 1))
    ) else (
      some (.inl (v2 + 1, v3 + 1))
    )
  )
def f_X5_piecesBoundBy (F G : Nat → Nat → Nat) (h0 : Nat) (p0 : Int32) (I A : zH) : Option (Int32) :=
  zb2 (zIt (fun x => g_X5_piecesBoundBy_4 F G h0 p0 x.1 x.2 I A) 2000 (0, 0)) fun i1 i2 =>
  some i1
set_option maxHeartbeats 4000000 in
set_option maxRecDepth 100000 in
theorem wb_X5_piecesBoundBy_4 (l : Launch) (D : va_G) (cy : Nat → ClassId) {L : List Nat} {K N : Nat → Nat} {F G : Nat → Nat → Nat} (hZ : ZL L K N F G) {p : Program} {e : Env} {R : Room} {s : State} {m : MethodId} {args : Array Value} {below : List Frame} {meth : Method} {c : Code} {cells slots : Nat} {Q : State → Prop} (C : ZC p s m args meth c cX5_piecesBoundBy yX5_piecesBoundBy.cls 4 D cy L K N F G) (hRf : 1 ≤ R.frames) (hRl : 21 ≤ R.locals) (hRc : cells ≤ R.cells ∧ slots ≤ R.slots)  (v0 : Nat) (v1 : Int32) (k0 : K v0 = 5) (I : zH) (A : zH) (v2 : Int32) (v3 : Int32) (o : (Int32 × Int32) ⊕ (Int32 × Int32)) (h : g_X5_piecesBoundBy_4 F G v0 v1 v2 v3 I A = some o)
    (hg : ∀ y : Int32 × Int32, o = .inl y → ZW p l e R s m args below meth c 4 D cy L K N F G cells slots Q I A 4 [(0, .ref v0), (1, .int v1), (2, .int y.1), (3, .int y.2)] [])
    (hx : ∀ y : Int32 × Int32, o = .inr y → ZW p l e R s m args below meth c 4 D cy L K N F G cells slots Q I A 36 [(0, .ref v0), (1, .int v1), (2, .int y.1), (3, .int y.2)] []) : ZW p l e R s m args below meth c 4 D cy L K N F G cells slots Q I A 4 [(0, .ref v0), (1, .int v1), (2, .int v2), (3, .int v3)] [] := by
  unfold g_X5_piecesBoundBy_4 at h
  refine zr_iload_n C 3 rfl rfl dX5_piecesBoundBy_4 ?_
  refine zr_aload_n C 0 rfl rfl dX5_piecesBoundBy_5 ?_
  refine zr_get (ci := 5) (k := 8) (v := .int (I v0 8)) C k0 (by decide) rfl zinX5 (by decide) wd_166 rfl dX5_piecesBoundBy_6 ?_
  refine zr_icmp_ge (tgt := 36) C (by decide) dX5_piecesBoundBy_9 (fun hc1 => ?_) (fun hc1 => ?_)
  · have h := zif_t hc1 h
    obtain rfl := zso h
    refine zr_lv (lv' := [(0, .ref v0), (1, .int v1), (2, .int v2), (3, .int v3)]) C [0, 1, 2, 3] rfl ?_
    exact hx _ rfl
  · have h := zif_f hc1 h
    refine zr_aload_n C 0 rfl rfl dX5_piecesBoundBy_12 ?_
    refine zr_get (ci := 5) (k := 6) (v := .ref (F v0 6)) C k0 (by decide) rfl zinX5 (by decide) wd_164 rfl dX5_piecesBoundBy_13 ?_
    refine zr_iload_n C 3 rfl rfl dX5_piecesBoundBy_16 ?_
    obtain ⟨r2, h3, h⟩ := zb_e h
    refine zr_callVi (n := 1) (As := [.int v3]) C (c_X0_licencesOf l D cy hZ (F v0 6) v3 (zt56 hZ k0) I A h3) wd_314 wd_315 wd_316 wd_3 wd_317 (by decide +kernel) ⟨(Nat.le_trans (Nat.le_of_ble_eq_true rfl) hRf), (Nat.le_trans (Nat.le_of_ble_eq_true rfl) hRl)⟩ rfl rfl hRc (zt56 hZ k0) (by decide) rfl rfl rfl (Nat.le_of_ble_eq_true rfl) dX5_piecesBoundBy_17 ?_
    refine zr_iload_n C 1 rfl rfl dX5_piecesBoundBy_20 ?_
    obtain ⟨r5, h6, h⟩ := zb_e h
    refine zr_callSi (n := 2) (As := [.int r2, .int v1]) C (c_X5_hasBit l D cy hZ r2 v1 I A h6) wd_392 wd_323 wd_1 wd_324 (by decide +kernel) ⟨(Nat.le_trans (Nat.le_of_ble_eq_true rfl) hRf), (Nat.le_trans (Nat.le_of_ble_eq_true rfl) hRl)⟩ rfl rfl hRc rfl rfl (Nat.le_of_ble_eq_true rfl) dX5_piecesBoundBy_21 ?_
    refine zr_if_eq (tgt := 30) C (by decide) dX5_piecesBoundBy_24 (fun hc8 => ?_) (fun hc8 => ?_)
    · have h := zif_t hc8 h
      refine zr_iinc (v := v3 + 1) (lv' := [(3, .int (v3 + 1)), (0, .ref v0), (1, .int v1), (2, .int v2)]) C 3 rfl rfl (by decide) rfl dX5_piecesBoundBy_30 ?_
      refine zr_goto (tgt := 4) C (by decide) dX5_piecesBoundBy_33 ?_
      obtain rfl := zso h
      refine zr_lv (lv' := [(0, .ref v0), (1, .int v1), (2, .int v2), (3, .int (v3 + 1))]) C [1, 2, 3, 0] rfl ?_
      exact hg _ rfl
    · have h := zif_f hc8 h
      refine zr_iinc (v := v2 + 1) (lv' := [(2, .int (v2 + 1)), (0, .ref v0), (1, .int v1), (3, .int v3)]) C 2 rfl rfl (by decide) rfl dX5_piecesBoundBy_27 ?_
      refine zr_iinc (v := v3 + 1) (lv' := [(3, .int (v3 + 1)), (2, .int (v2 + 1)), (0, .ref v0), (1, .int v1)]) C 3 rfl rfl (by decide) rfl dX5_piecesBoundBy_30 ?_
      refine zr_goto (tgt := 4) C (by decide) dX5_piecesBoundBy_33 ?_
      obtain rfl := zso h
      refine zr_lv (lv' := [(0, .ref v0), (1, .int v1), (2, .int (v2 + 1)), (3, .int (v3 + 1))]) C [2, 3, 1, 0] rfl ?_
      exact hg _ rfl
set_option maxHeartbeats 4000000 in
set_option maxRecDepth 100000 in
theorem w_X5_piecesBoundBy_4 (l : Launch) (D : va_G) (cy : Nat → ClassId) {L : List Nat} {K N : Nat → Nat} {F G : Nat → Nat → Nat} (hZ : ZL L K N F G) {p : Program} {e : Env} {R : Room} {s : State} {m : MethodId} {args : Array Value} {below : List Frame} {meth : Method} {c : Code} {cells slots : Nat} {Q : State → Prop} (C : ZC p s m args meth c cX5_piecesBoundBy yX5_piecesBoundBy.cls 4 D cy L K N F G) (hRf : 1 ≤ R.frames) (hRl : 21 ≤ R.locals) (hRc : cells ≤ R.cells ∧ slots ≤ R.slots)  (v0 : Nat) (v1 : Int32) (k0 : K v0 = 5) (I : zH) (A : zH) (n : Nat) (x : Int32 × Int32) (o : Int32 × Int32) (h : zIt (fun x => g_X5_piecesBoundBy_4 F G v0 v1 x.1 x.2 I A) n x = some o)
    (hx : ZW p l e R s m args below meth c 4 D cy L K N F G cells slots Q I A 36 [(0, .ref v0), (1, .int v1), (2, .int o.1), (3, .int o.2)] []) : ZW p l e R s m args below meth c 4 D cy L K N F G cells slots Q I A 4 [(0, .ref v0), (1, .int v1), (2, .int x.1), (3, .int x.2)] [] := by
  induction n generalizing x with
  | zero => cases h
  | succ n ih =>
    unfold zIt at h
    cases hb : g_X5_piecesBoundBy_4 F G v0 v1 x.1 x.2 I A with
    | none => rw [hb] at h; cases h
    | some q =>
      rw [hb] at h
      refine wb_X5_piecesBoundBy_4 l D cy hZ C hRf hRl hRc v0 v1 k0 I A x.1 x.2 q hb (fun y hy => ?_) (fun y hy => ?_)
      · subst hy; exact ih y h
      · subst hy; cases h; exact hx
set_option maxHeartbeats 4000000 in
set_option maxRecDepth 100000 in
theorem c_X5_piecesBoundBy (l : Launch) (D : va_G) (cy : Nat → ClassId) {L : List Nat} {K N : Nat → Nat} {F G : Nat → Nat → Nat} (hZ : ZL L K N F G) (h0 : Nat) (p0 : Int32) (k_h0 : K h0 = 5) (I A : zH) {r : Int32} (h : f_X5_piecesBoundBy F G h0 p0 I A = some r) : ZMi l yX5_piecesBoundBy cX5_piecesBoundBy 4 (some .int) { frames := 1, cells := 0, slots := 0, locals := 21 } D cy L K N F G [.ref h0, .int p0] I A r I A := by
  refine ZMi.of (nL := 4) hZ rfl rfl (by decide) (Nat.le_of_ble_eq_true rfl) (fun p e s m args below meth c C hr => ?_)
  unfold f_X5_piecesBoundBy at h
  refine zr_lv (lv' := [(0, .ref h0), (1, .int p0)]) C [0, 1] rfl ?_
  refine zr_iconst (v := 0) C (by decide) dX5_piecesBoundBy_0 ?_
  refine zr_istore_n (lv' := [(2, .int 0), (0, .ref h0), (1, .int p0)]) C rfl (by decide) rfl dX5_piecesBoundBy_1 ?_
  refine zr_iconst (v := 0) C (by decide) dX5_piecesBoundBy_2 ?_
  refine zr_istore_n (lv' := [(3, .int 0), (2, .int 0), (0, .ref h0), (1, .int p0)]) C rfl (by decide) rfl dX5_piecesBoundBy_3 ?_
  obtain ⟨i1, i2, h3, h⟩ := zb2_e h
  refine zr_lv (lv' := [(0, .ref h0), (1, .int p0), (2, .int 0), (3, .int 0)]) C [2, 3, 1, 0] rfl ?_
  refine w_X5_piecesBoundBy_4 l D cy hZ C (Nat.le_of_ble_eq_true rfl) (Nat.le_of_ble_eq_true rfl) ⟨Nat.le_of_ble_eq_true rfl, Nat.le_of_ble_eq_true rfl⟩ h0 p0 k_h0 I A 2000 (0, 0) (i1, i2) h3 ?_
  refine zr_iload_n C 2 rfl rfl dX5_piecesBoundBy_36 ?_
  obtain rfl := zso h
  exact zr_iret C hr dX5_piecesBoundBy_37

def f_X5_ofLicence (F G : Nat → Nat → Nat) (h0 : Nat) (p0 : Int32) (p1 : Int32) (I A : zH) : Option (Int32) :=
  zb (f_X5_needLicence F G h0 p0 I A) fun _ =>
  zck (¬ (p0 < 0 ∨ 6 ≤ p0.toNatClampNeg)) <|
  if p1 = 0 then (
    some (I (G (F h0 4) p0.toNatClampNeg) 0)
  ) else (
  if p1 = 1 then (
    some (I (G (F h0 4) p0.toNatClampNeg) 1)
  ) else (
  if p1 = 2 then (
    if (I (G (F h0 4) p0.toNatClampNeg) 2) = 0 then (
      some 0
    ) else (
      some 1
    )
  ) else (
  if p1 = 3 then (
    some (I (G (F h0 4) p0.toNatClampNeg) 3)
  ) else (
  if p1 = 4 then (
    some (I (G (F h0 4) p0.toNatClampNeg) 4)
  ) else (
  if p1 = 5 then (
    zb (f_X5_piecesBoundBy F G h0 p0 I A) fun r11 =>
    some r11
  ) else (
    none
  ))))))
set_option maxHeartbeats 4000000 in
set_option maxRecDepth 100000 in
theorem c_X5_ofLicence (l : Launch) (D : va_G) (cy : Nat → ClassId) {L : List Nat} {K N : Nat → Nat} {F G : Nat → Nat → Nat} (hZ : ZL L K N F G) (h0 : Nat) (p0 : Int32) (p1 : Int32) (k_h0 : K h0 = 5) (I A : zH) {r : Int32} (h : f_X5_ofLicence F G h0 p0 p1 I A = some r) : ZMi l yX5_ofLicence cX5_ofLicence 4 (some .int) { frames := 2, cells := 0, slots := 0, locals := 44 } D cy L K N F G [.ref h0, .int p0, .int p1] I A r I A := by
  refine ZMi.of (nL := 4) hZ rfl rfl (by decide) (Nat.le_of_ble_eq_true rfl) (fun p e s m args below meth c C hr => ?_)
  unfold f_X5_ofLicence at h
  refine zr_lv (lv' := [(0, .ref h0), (1, .int p0), (2, .int p1)]) C [0, 1, 2] rfl ?_
  refine zr_aload_n C 0 rfl rfl dX5_ofLicence_0 ?_
  refine zr_iload_n C 1 rfl rfl dX5_ofLicence_1 ?_
  obtain ⟨_, h1, h⟩ := zb_e h
  refine zr_callVv (n := 1) (As := [.int p0]) C (c_X5_needLicence l D cy hZ h0 p0 k_h0 I A h1) wd_436 wd_438 wp_14 wd_1 wd_439 (by decide +kernel) ⟨(Nat.le_of_ble_eq_true rfl), (Nat.le_of_ble_eq_true rfl)⟩ rfl rfl ⟨Nat.le_of_ble_eq_true rfl, Nat.le_of_ble_eq_true rfl⟩ k_h0 (by decide) rfl rfl rfl (Nat.le_of_ble_eq_true rfl) dX5_ofLicence_2 ?_
  refine zr_aload_n C 0 rfl rfl dX5_ofLicence_5 ?_
  refine zr_get (ci := 5) (k := 4) (v := .ref (F h0 4)) C k_h0 (by decide) rfl zinX5 (by decide) wd_162 rfl dX5_ofLicence_6 ?_
  refine zr_iload_n C 1 rfl rfl dX5_ofLicence_9 ?_
  obtain ⟨hc3, h⟩ := zck_e h
  refine zr_ald7 C (zt54 hZ k_h0).1 (zt54 hZ k_h0).2 hc3 dX5_ofLicence_10 ?_
  refine zr_astore_n (lv' := [(3, .ref (G (F h0 4) p0.toNatClampNeg)), (0, .ref h0), (1, .int p0), (2, .int p1)]) C rfl (by decide) rfl dX5_ofLicence_11 ?_
  refine zr_iload_n C 3 rfl rfl dX5_ofLicence_12 ?_
  by_cases hc4 : p1 = 0
  · have h := zif_t hc4 h
    refine zr_tableIn (off := 39) (tgt := 52) C (by rw [hc4]; decide) (by rw [hc4]; decide) (by rw [hc4]; decide) (by decide) dX5_ofLicence_13 ?_
    refine zr_aload_n C 0 rfl rfl dX5_ofLicence_52 ?_
    refine zr_get (ci := 1) (k := 0) (v := .int (I (G (F h0 4) p0.toNatClampNeg) 0)) C (zt7 hZ (zt54 hZ k_h0).1 (z_ix (zt54 hZ k_h0).2 hc3)) (by decide) rfl zinX1 (by decide) wd_99 rfl dX5_ofLicence_53 ?_
    obtain rfl := zso h
    exact zr_iret C hr dX5_ofLicence_56
  have h := zif_f hc4 h
  by_cases hc5 : p1 = 1
  · have h := zif_t hc5 h
    refine zr_tableIn (off := 44) (tgt := 57) C (by rw [hc5]; decide) (by rw [hc5]; decide) (by rw [hc5]; decide) (by decide) dX5_ofLicence_13 ?_
    refine zr_aload_n C 0 rfl rfl dX5_ofLicence_57 ?_
    refine zr_get (ci := 1) (k := 1) (v := .int (I (G (F h0 4) p0.toNatClampNeg) 1)) C (zt7 hZ (zt54 hZ k_h0).1 (z_ix (zt54 hZ k_h0).2 hc3)) (by decide) rfl zinX1 (by decide) wd_101 rfl dX5_ofLicence_58 ?_
    obtain rfl := zso h
    exact zr_iret C hr dX5_ofLicence_61
  have h := zif_f hc5 h
  by_cases hc6 : p1 = 2
  · have h := zif_t hc6 h
    refine zr_tableIn (off := 49) (tgt := 62) C (by rw [hc6]; decide) (by rw [hc6]; decide) (by rw [hc6]; decide) (by decide) dX5_ofLicence_13 ?_
    refine zr_aload_n C 0 rfl rfl dX5_ofLicence_62 ?_
    refine zr_get (ci := 1) (k := 2) (v := .int (I (G (F h0 4) p0.toNatClampNeg) 2)) C (zt7 hZ (zt54 hZ k_h0).1 (z_ix (zt54 hZ k_h0).2 hc3)) (by decide) rfl zinX1 (by decide) wd_104 rfl dX5_ofLicence_63 ?_
    refine zr_if_eq (tgt := 73) C (by decide) dX5_ofLicence_66 (fun hc7 => ?_) (fun hc7 => ?_)
    · have h := zif_t hc7 h
      refine zr_iconst (v := 0) C (by decide) dX5_ofLicence_73 ?_
      obtain rfl := zso h
      exact zr_iret C hr dX5_ofLicence_74
    · have h := zif_f hc7 h
      refine zr_iconst (v := 1) C (by decide) dX5_ofLicence_69 ?_
      refine zr_goto (tgt := 74) C (by decide) dX5_ofLicence_70 ?_
      obtain rfl := zso h
      exact zr_iret C hr dX5_ofLicence_74
  have h := zif_f hc6 h
  by_cases hc8 : p1 = 3
  · have h := zif_t hc8 h
    refine zr_tableIn (off := 62) (tgt := 75) C (by rw [hc8]; decide) (by rw [hc8]; decide) (by rw [hc8]; decide) (by decide) dX5_ofLicence_13 ?_
    refine zr_aload_n C 0 rfl rfl dX5_ofLicence_75 ?_
    refine zr_get (ci := 1) (k := 3) (v := .int (I (G (F h0 4) p0.toNatClampNeg) 3)) C (zt7 hZ (zt54 hZ k_h0).1 (z_ix (zt54 hZ k_h0).2 hc3)) (by decide) rfl zinX1 (by decide) wd_106 rfl dX5_ofLicence_76 ?_
    obtain rfl := zso h
    exact zr_iret C hr dX5_ofLicence_79
  have h := zif_f hc8 h
  by_cases hc9 : p1 = 4
  · have h := zif_t hc9 h
    refine zr_tableIn (off := 67) (tgt := 80) C (by rw [hc9]; decide) (by rw [hc9]; decide) (by rw [hc9]; decide) (by decide) dX5_ofLicence_13 ?_
    refine zr_aload_n C 0 rfl rfl dX5_ofLicence_80 ?_
    refine zr_get (ci := 1) (k := 4) (v := .int (I (G (F h0 4) p0.toNatClampNeg) 4)) C (zt7 hZ (zt54 hZ k_h0).1 (z_ix (zt54 hZ k_h0).2 hc3)) (by decide) rfl zinX1 (by decide) wd_109 rfl dX5_ofLicence_81 ?_
    obtain rfl := zso h
    exact zr_iret C hr dX5_ofLicence_84
  have h := zif_f hc9 h
  by_cases hc10 : p1 = 5
  · have h := zif_t hc10 h
    refine zr_tableIn (off := 72) (tgt := 85) C (by rw [hc10]; decide) (by rw [hc10]; decide) (by rw [hc10]; decide) (by decide) dX5_ofLicence_13 ?_
    refine zr_aload_n C 1 rfl rfl dX5_ofLicence_85 ?_
    refine zr_iload_n C 2 rfl rfl dX5_ofLicence_86 ?_
    obtain ⟨r11, h12, h⟩ := zb_e h
    refine zr_callVi (n := 1) (As := [.int p0]) C (c_X5_piecesBoundBy l D cy hZ h0 p0 k_h0 I A h12) wd_441 wd_443 wp_15 wd_1 wd_444 (by decide +kernel) ⟨(Nat.le_of_ble_eq_true rfl), (Nat.le_of_ble_eq_true rfl)⟩ rfl rfl ⟨Nat.le_of_ble_eq_true rfl, Nat.le_of_ble_eq_true rfl⟩ k_h0 (by decide) rfl rfl rfl (Nat.le_of_ble_eq_true rfl) dX5_ofLicence_87 ?_
    obtain rfl := zso h
    exact zr_iret C hr dX5_ofLicence_90
  have h := zif_f hc10 h
  refine zr_tableOut (tgt := 91) C (zsw_0_5 hc4 hc5 hc6 hc8 hc9 hc10) (by decide) dX5_ofLicence_13 ?_
  exact zno h

def g_X5_foldLicence_6 (F G : Nat → Nat → Nat) (v0 : Nat) (v3 : Int32) (v4 : Int64) (v6 : Int32) (I : zH) (A : zH) : Option ((Int64 × Int32) ⊕ (Int64 × Int32)) :=
  if 6 ≤ v6 then (
    some (.inr (v4, v6))
  ) else (
    zb (f_X5_ofLicence F G v0 v3 v6 I A) fun r2 =>
    zb (f_X5_fold F G v4 r2 I A) fun r5 =>
    some (.inl (r5, v6 + 1))
  )
def f_X5_foldLicence (F G : Nat → Nat → Nat) (h0 : Nat) (p0 : Int64) (p1 : Int32) (I A : zH) : Option (Int64) :=
  zb2 (zIt (fun x => g_X5_foldLicence_6 F G h0 p1 x.1 x.2 I A) 2000 (p0, 0)) fun j1 i2 =>
  some j1
set_option maxHeartbeats 4000000 in
set_option maxRecDepth 100000 in
theorem wb_X5_foldLicence_6 (l : Launch) (D : va_G) (cy : Nat → ClassId) {L : List Nat} {K N : Nat → Nat} {F G : Nat → Nat → Nat} (hZ : ZL L K N F G) {p : Program} {e : Env} {R : Room} {s : State} {m : MethodId} {args : Array Value} {below : List Frame} {meth : Method} {c : Code} {cells slots : Nat} {Q : State → Prop} (C : ZC p s m args meth c cX5_foldLicence yX5_foldLicence.cls 7 D cy L K N F G) (hRf : 3 ≤ R.frames) (hRl : 67 ≤ R.locals) (hRc : cells ≤ R.cells ∧ slots ≤ R.slots)  (v0 : Nat) (v3 : Int32) (k0 : K v0 = 5) (I : zH) (A : zH) (v4 : Int64) (v6 : Int32) (o : (Int64 × Int32) ⊕ (Int64 × Int32)) (h : g_X5_foldLicence_6 F G v0 v3 v4 v6 I A = some o)
    (hg : ∀ y : Int64 × Int32, o = .inl y → ZW p l e R s m args below meth c 7 D cy L K N F G cells slots Q I A 6 [(0, .ref v0), (3, .int v3), (4, .long y.1), (6, .int y.2)] [])
    (hx : ∀ y : Int64 × Int32, o = .inr y → ZW p l e R s m args below meth c 7 D cy L K N F G cells slots Q I A 33 [(0, .ref v0), (3, .int v3), (4, .long y.1), (6, .int y.2)] []) : ZW p l e R s m args below meth c 7 D cy L K N F G cells slots Q I A 6 [(0, .ref v0), (3, .int v3), (4, .long v4), (6, .int v6)] [] := by
  unfold g_X5_foldLicence_6 at h
  refine zr_iload C 3 rfl dX5_foldLicence_6 ?_
  refine zr_bipush (v := 6) C (by decide) dX5_foldLicence_8 ?_
  refine zr_icmp_ge (tgt := 33) C (by decide) dX5_foldLicence_10 (fun hc1 => ?_) (fun hc1 => ?_)
  · have h := zif_t hc1 h
    obtain rfl := zso h
    refine zr_lv (lv' := [(0, .ref v0), (3, .int v3), (4, .long v4), (6, .int v6)]) C [0, 1, 2, 3] rfl ?_
    exact hx _ rfl
  · have h := zif_f hc1 h
    refine zr_lload C 2 rfl dX5_foldLicence_13 ?_
    refine zr_aload_n C 0 rfl rfl dX5_foldLicence_15 ?_
    refine zr_iload_n C 1 rfl rfl dX5_foldLicence_16 ?_
    refine zr_iload C 3 rfl dX5_foldLicence_17 ?_
    obtain ⟨r2, h3, h⟩ := zb_e h
    refine zr_callVi (n := 2) (As := [.int v3, .int v6]) C (c_X5_ofLicence l D cy hZ v0 v3 v6 k0 I A h3) wd_617 wd_433 wd_434 wd_1 wd_435 (by decide +kernel) ⟨(Nat.le_trans (Nat.le_of_ble_eq_true rfl) hRf), (Nat.le_trans (Nat.le_of_ble_eq_true rfl) hRl)⟩ rfl rfl hRc k0 (by decide) rfl rfl rfl (Nat.le_of_ble_eq_true rfl) dX5_foldLicence_19 ?_
    obtain ⟨r5, h6, h⟩ := zb_e h
    refine zr_callSl (n := 2) (As := [.long v4, .int r2]) C (c_X5_fold l D cy hZ v4 r2 I A h6) wd_599 wd_600 wd_1 wd_601 (by decide +kernel) ⟨(Nat.le_trans (Nat.le_of_ble_eq_true rfl) hRf), (Nat.le_trans (Nat.le_of_ble_eq_true rfl) hRl)⟩ rfl rfl hRc rfl rfl (Nat.le_of_ble_eq_true rfl) dX5_foldLicence_22 ?_
    refine zr_lstore (lv' := [(4, .long r5), (0, .ref v0), (3, .int v3), (6, .int v6)]) C (by decide) rfl dX5_foldLicence_25 ?_
    refine zr_iinc (v := v6 + 1) (lv' := [(6, .int (v6 + 1)), (4, .long r5), (0, .ref v0), (3, .int v3)]) C 3 rfl rfl (by decide) rfl dX5_foldLicence_27 ?_
    refine zr_goto (tgt := 6) C (by decide) dX5_foldLicence_30 ?_
    obtain rfl := zso h
    refine zr_lv (lv' := [(0, .ref v0), (3, .int v3), (4, .long r5), (6, .int (v6 + 1))]) C [2, 3, 1, 0] rfl ?_
    exact hg _ rfl
set_option maxHeartbeats 4000000 in
set_option maxRecDepth 100000 in
theorem w_X5_foldLicence_6 (l : Launch) (D : va_G) (cy : Nat → ClassId) {L : List Nat} {K N : Nat → Nat} {F G : Nat → Nat → Nat} (hZ : ZL L K N F G) {p : Program} {e : Env} {R : Room} {s : State} {m : MethodId} {args : Array Value} {below : List Frame} {meth : Method} {c : Code} {cells slots : Nat} {Q : State → Prop} (C : ZC p s m args meth c cX5_foldLicence yX5_foldLicence.cls 7 D cy L K N F G) (hRf : 3 ≤ R.frames) (hRl : 67 ≤ R.locals) (hRc : cells ≤ R.cells ∧ slots ≤ R.slots)  (v0 : Nat) (v3 : Int32) (k0 : K v0 = 5) (I : zH) (A : zH) (n : Nat) (x : Int64 × Int32) (o : Int64 × Int32) (h : zIt (fun x => g_X5_foldLicence_6 F G v0 v3 x.1 x.2 I A) n x = some o)
    (hx : ZW p l e R s m args below meth c 7 D cy L K N F G cells slots Q I A 33 [(0, .ref v0), (3, .int v3), (4, .long o.1), (6, .int o.2)] []) : ZW p l e R s m args below meth c 7 D cy L K N F G cells slots Q I A 6 [(0, .ref v0), (3, .int v3), (4, .long x.1), (6, .int x.2)] [] := by
  induction n generalizing x with
  | zero => cases h
  | succ n ih =>
    unfold zIt at h
    cases hb : g_X5_foldLicence_6 F G v0 v3 x.1 x.2 I A with
    | none => rw [hb] at h; cases h
    | some q =>
      rw [hb] at h
      refine wb_X5_foldLicence_6 l D cy hZ C hRf hRl hRc v0 v3 k0 I A x.1 x.2 q hb (fun y hy => ?_) (fun y hy => ?_)
      · subst hy; exact ih y h
      · subst hy; cases h; exact hx
set_option maxHeartbeats 4000000 in
set_option maxRecDepth 100000 in
theorem c_X5_foldLicence (l : Launch) (D : va_G) (cy : Nat → ClassId) {L : List Nat} {K N : Nat → Nat} {F G : Nat → Nat → Nat} (hZ : ZL L K N F G) (h0 : Nat) (p0 : Int64) (p1 : Int32) (k_h0 : K h0 = 5) (I A : zH) {r : Int64} (h : f_X5_foldLicence F G h0 p0 p1 I A = some r) : ZMl l yX5_foldLicence cX5_foldLicence 7 (some .long) { frames := 3, cells := 0, slots := 0, locals := 67 } D cy L K N F G [.ref h0, .long p0, .int p1] I A r I A := by
  refine ZMl.of (nL := 7) hZ rfl rfl (by decide) (Nat.le_of_ble_eq_true rfl) (fun p e s m args below meth c C hr => ?_)
  unfold f_X5_foldLicence at h
  refine zr_lv (lv' := [(0, .ref h0), (1, .long p0), (3, .int p1)]) C [0, 1, 2] rfl ?_
  refine zr_lload_n C 1 rfl rfl dX5_foldLicence_0 ?_
  refine zr_lstore (lv' := [(4, .long p0), (0, .ref h0), (1, .long p0), (3, .int p1)]) C (by decide) rfl dX5_foldLicence_1 ?_
  refine zr_iconst (v := 0) C (by decide) dX5_foldLicence_3 ?_
  refine zr_istore (lv' := [(6, .int 0), (4, .long p0), (0, .ref h0), (1, .long p0), (3, .int p1)]) C (by decide) rfl dX5_foldLicence_4 ?_
  obtain ⟨j1, i2, h3, h⟩ := zb2_e h
  refine zr_lv (lv' := [(0, .ref h0), (3, .int p1), (4, .long p0), (6, .int 0)]) C [2, 4, 1, 0] rfl ?_
  refine w_X5_foldLicence_6 l D cy hZ C (Nat.le_of_ble_eq_true rfl) (Nat.le_of_ble_eq_true rfl) ⟨Nat.le_of_ble_eq_true rfl, Nat.le_of_ble_eq_true rfl⟩ h0 p1 k_h0 I A 2000 (p0, 0) (j1, i2) h3 ?_
  refine zr_lload C 2 rfl dX5_foldLicence_33 ?_
  obtain rfl := zso h
  exact zr_lret C hr dX5_foldLicence_35

def f_X5_needProject (F G : Nat → Nat → Nat) (h0 : Nat) (p0 : Int32) (I A : zH) : Option (Unit) :=
  if p0 < 0 then (
    none
  ) else (
    if p0 < (I h0 10) then (
      some ()
    ) else (
      none
    )
  )
set_option maxHeartbeats 4000000 in
set_option maxRecDepth 100000 in
theorem c_X5_needProject (l : Launch) (D : va_G) (cy : Nat → ClassId) {L : List Nat} {K N : Nat → Nat} {F G : Nat → Nat → Nat} (hZ : ZL L K N F G) (h0 : Nat) (p0 : Int32) (k_h0 : K h0 = 5) (I A : zH) (h : f_X5_needProject F G h0 p0 I A = some ()) : ZMv l yX5_needProject cX5_needProject 2 none { frames := 0, cells := 0, slots := 0, locals := 0 } D cy L K N F G [.ref h0, .int p0] I A I A := by
  refine ZMv.of (nL := 2) hZ rfl rfl (by decide) (Nat.le_of_ble_eq_true rfl) (fun p e s m args below meth c C hr => ?_)
  unfold f_X5_needProject at h
  refine zr_lv (lv' := [(0, .ref h0), (1, .int p0)]) C [0, 1] rfl ?_
  refine zr_iload_n C 1 rfl rfl dX5_needProject_0 ?_
  refine zr_if_lt (tgt := 12) C (by decide) dX5_needProject_1 (fun hc1 => ?_) (fun hc1 => ?_)
  · have h := zif_t hc1 h
    exact zno h
  · have h := zif_f hc1 h
    refine zr_iload_n C 1 rfl rfl dX5_needProject_4 ?_
    refine zr_aload_n C 0 rfl rfl dX5_needProject_5 ?_
    refine zr_get (ci := 5) (k := 10) (v := .int (I h0 10)) C k_h0 (by decide) rfl zinX5 (by decide) wd_168 rfl dX5_needProject_6 ?_
    refine zr_icmp_lt (tgt := 23) C (by decide) dX5_needProject_9 (fun hc2 => ?_) (fun hc2 => ?_)
    · have h := zif_t hc2 h
      exact zr_vret C hr dX5_needProject_23
    · have h := zif_f hc2 h
      exact zno h

def f_X5_ofProject (F G : Nat → Nat → Nat) (h0 : Nat) (p0 : Int32) (p1 : Int32) (I A : zH) : Option (Int32) :=
  zb (f_X5_needProject F G h0 p0 I A) fun _ =>
  zck (¬ (p0 < 0 ∨ 5 ≤ p0.toNatClampNeg)) <|
  if p1 = 0 then (
    some (I (G (F h0 5) p0.toNatClampNeg) 6)
  ) else (
  if p1 = 1 then (
    zb (f_J6_bitCount_0f7a4 F G (I (G (F h0 5) p0.toNatClampNeg) 4) I A) fun r6 =>
    some r6
  ) else (
  if p1 = 2 then (
    zb (f_X3_countClashes F G (G (F h0 5) p0.toNatClampNeg) (F h0 6) I A) fun r10 =>
    some r10
  ) else (
  if p1 = 3 then (
    zb (f_X3_duties F G (G (F h0 5) p0.toNatClampNeg) (F h0 6) I A) fun r14 =>
    some r14
  ) else (
  if p1 = 4 then (
    some (I (G (F h0 5) p0.toNatClampNeg) 5)
  ) else (
  if p1 = 5 then (
    some (I (G (F h0 5) p0.toNatClampNeg) 7)
  ) else (
  if p1 = 6 then (
    some (I (G (F h0 5) p0.toNatClampNeg) 4)
  ) else (
    none
  )))))))
set_option maxHeartbeats 4000000 in
set_option maxRecDepth 100000 in
theorem c_X5_ofProject (l : Launch) (D : va_G) (cy : Nat → ClassId) {L : List Nat} {K N : Nat → Nat} {F G : Nat → Nat → Nat} (hZ : ZL L K N F G) (h0 : Nat) (p0 : Int32) (p1 : Int32) (k_h0 : K h0 = 5) (I A : zH) {r : Int32} (h : f_X5_ofProject F G h0 p0 p1 I A = some r) : ZMi l yX5_ofProject cX5_ofProject 4 (some .int) { frames := 3, cells := 0, slots := 0, locals := 74 } D cy L K N F G [.ref h0, .int p0, .int p1] I A r I A := by
  refine ZMi.of (nL := 4) hZ rfl rfl (by decide) (Nat.le_of_ble_eq_true rfl) (fun p e s m args below meth c C hr => ?_)
  unfold f_X5_ofProject at h
  refine zr_lv (lv' := [(0, .ref h0), (1, .int p0), (2, .int p1)]) C [0, 1, 2] rfl ?_
  refine zr_aload_n C 0 rfl rfl dX5_ofProject_0 ?_
  refine zr_iload_n C 1 rfl rfl dX5_ofProject_1 ?_
  obtain ⟨_, h1, h⟩ := zb_e h
  refine zr_callVv (n := 1) (As := [.int p0]) C (c_X5_needProject l D cy hZ h0 p0 k_h0 I A h1) wd_468 wd_470 wp_17 wd_1 wd_471 (by decide +kernel) ⟨(Nat.le_of_ble_eq_true rfl), (Nat.le_of_ble_eq_true rfl)⟩ rfl rfl ⟨Nat.le_of_ble_eq_true rfl, Nat.le_of_ble_eq_true rfl⟩ k_h0 (by decide) rfl rfl rfl (Nat.le_of_ble_eq_true rfl) dX5_ofProject_2 ?_
  refine zr_aload_n C 0 rfl rfl dX5_ofProject_5 ?_
  refine zr_get (ci := 5) (k := 5) (v := .ref (F h0 5)) C k_h0 (by decide) rfl zinX5 (by decide) wd_163 rfl dX5_ofProject_6 ?_
  refine zr_iload_n C 1 rfl rfl dX5_ofProject_9 ?_
  obtain ⟨hc3, h⟩ := zck_e h
  refine zr_ald9 C (zt55 hZ k_h0).1 (zt55 hZ k_h0).2 hc3 dX5_ofProject_10 ?_
  refine zr_astore_n (lv' := [(3, .ref (G (F h0 5) p0.toNatClampNeg)), (0, .ref h0), (1, .int p0), (2, .int p1)]) C rfl (by decide) rfl dX5_ofProject_11 ?_
  refine zr_iload_n C 3 rfl rfl dX5_ofProject_12 ?_
  by_cases hc4 : p1 = 0
  · have h := zif_t hc4 h
    refine zr_tableIn (off := 43) (tgt := 56) C (by rw [hc4]; decide) (by rw [hc4]; decide) (by rw [hc4]; decide) (by decide) dX5_ofProject_13 ?_
    refine zr_aload_n C 0 rfl rfl dX5_ofProject_56 ?_
    refine zr_get (ci := 3) (k := 6) (v := .int (I (G (F h0 5) p0.toNatClampNeg) 6)) C (zt9 hZ (zt55 hZ k_h0).1 (z_ix (zt55 hZ k_h0).2 hc3)) (by decide) rfl zinX3 (by decide) wd_138 rfl dX5_ofProject_57 ?_
    obtain rfl := zso h
    exact zr_iret C hr dX5_ofProject_60
  have h := zif_f hc4 h
  by_cases hc5 : p1 = 1
  · have h := zif_t hc5 h
    refine zr_tableIn (off := 48) (tgt := 61) C (by rw [hc5]; decide) (by rw [hc5]; decide) (by rw [hc5]; decide) (by decide) dX5_ofProject_13 ?_
    refine zr_aload_n C 0 rfl rfl dX5_ofProject_61 ?_
    refine zr_get (ci := 3) (k := 4) (v := .int (I (G (F h0 5) p0.toNatClampNeg) 4)) C (zt9 hZ (zt55 hZ k_h0).1 (z_ix (zt55 hZ k_h0).2 hc3)) (by decide) rfl zinX3 (by decide) wd_134 rfl dX5_ofProject_62 ?_
    obtain ⟨r6, h7, h⟩ := zb_e h
    refine zr_callSi (n := 1) (As := [.int (I (G (F h0 5) p0.toNatClampNeg) 4)]) C (c_J6_bitCount_0f7a4 l D cy hZ (I (G (F h0 5) p0.toNatClampNeg) 4) I A h7) wd_503 wd_359 wd_12 wd_360 (by decide +kernel) ⟨(Nat.le_of_ble_eq_true rfl), (Nat.le_of_ble_eq_true rfl)⟩ rfl rfl ⟨Nat.le_of_ble_eq_true rfl, Nat.le_of_ble_eq_true rfl⟩ rfl rfl (Nat.le_of_ble_eq_true rfl) dX5_ofProject_65 ?_
    obtain rfl := zso h
    exact zr_iret C hr dX5_ofProject_68
  have h := zif_f hc5 h
  by_cases hc9 : p1 = 2
  · have h := zif_t hc9 h
    refine zr_tableIn (off := 56) (tgt := 69) C (by rw [hc9]; decide) (by rw [hc9]; decide) (by rw [hc9]; decide) (by decide) dX5_ofProject_13 ?_
    refine zr_aload_n C 0 rfl rfl dX5_ofProject_69 ?_
    refine zr_aload_n C 1 rfl rfl dX5_ofProject_70 ?_
    refine zr_get (ci := 5) (k := 6) (v := .ref (F h0 6)) C k_h0 (by decide) rfl zinX5 (by decide) wd_164 rfl dX5_ofProject_71 ?_
    obtain ⟨r10, h11, h⟩ := zb_e h
    refine zr_callVi (n := 1) (As := [.ref (F h0 6)]) C (c_X3_countClashes l D cy hZ (G (F h0 5) p0.toNatClampNeg) (F h0 6) (zt9 hZ (zt55 hZ k_h0).1 (z_ix (zt55 hZ k_h0).2 hc3)) (zt56 hZ k_h0) I A h11) wd_504 wd_343 wd_344 wd_6 wd_345 (by decide +kernel) ⟨(Nat.le_of_ble_eq_true rfl), (Nat.le_of_ble_eq_true rfl)⟩ rfl rfl ⟨Nat.le_of_ble_eq_true rfl, Nat.le_of_ble_eq_true rfl⟩ (zt9 hZ (zt55 hZ k_h0).1 (z_ix (zt55 hZ k_h0).2 hc3)) (by decide) rfl rfl rfl (Nat.le_of_ble_eq_true rfl) dX5_ofProject_74 ?_
    obtain rfl := zso h
    exact zr_iret C hr dX5_ofProject_77
  have h := zif_f hc9 h
  by_cases hc13 : p1 = 3
  · have h := zif_t hc13 h
    refine zr_tableIn (off := 65) (tgt := 78) C (by rw [hc13]; decide) (by rw [hc13]; decide) (by rw [hc13]; decide) (by decide) dX5_ofProject_13 ?_
    refine zr_aload_n C 0 rfl rfl dX5_ofProject_78 ?_
    refine zr_aload_n C 1 rfl rfl dX5_ofProject_79 ?_
    refine zr_get (ci := 5) (k := 6) (v := .ref (F h0 6)) C k_h0 (by decide) rfl zinX5 (by decide) wd_164 rfl dX5_ofProject_80 ?_
    obtain ⟨r14, h15, h⟩ := zb_e h
    refine zr_callVi (n := 1) (As := [.ref (F h0 6)]) C (c_X3_duties l D cy hZ (G (F h0 5) p0.toNatClampNeg) (F h0 6) (zt9 hZ (zt55 hZ k_h0).1 (z_ix (zt55 hZ k_h0).2 hc3)) (zt56 hZ k_h0) I A h15) wd_505 wd_334 wd_335 wd_6 wd_336 (by decide +kernel) ⟨(Nat.le_of_ble_eq_true rfl), (Nat.le_of_ble_eq_true rfl)⟩ rfl rfl ⟨Nat.le_of_ble_eq_true rfl, Nat.le_of_ble_eq_true rfl⟩ (zt9 hZ (zt55 hZ k_h0).1 (z_ix (zt55 hZ k_h0).2 hc3)) (by decide) rfl rfl rfl (Nat.le_of_ble_eq_true rfl) dX5_ofProject_83 ?_
    obtain rfl := zso h
    exact zr_iret C hr dX5_ofProject_86
  have h := zif_f hc13 h
  by_cases hc17 : p1 = 4
  · have h := zif_t hc17 h
    refine zr_tableIn (off := 74) (tgt := 87) C (by rw [hc17]; decide) (by rw [hc17]; decide) (by rw [hc17]; decide) (by decide) dX5_ofProject_13 ?_
    refine zr_aload_n C 0 rfl rfl dX5_ofProject_87 ?_
    refine zr_get (ci := 3) (k := 5) (v := .int (I (G (F h0 5) p0.toNatClampNeg) 5)) C (zt9 hZ (zt55 hZ k_h0).1 (z_ix (zt55 hZ k_h0).2 hc3)) (by decide) rfl zinX3 (by decide) wd_136 rfl dX5_ofProject_88 ?_
    obtain rfl := zso h
    exact zr_iret C hr dX5_ofProject_91
  have h := zif_f hc17 h
  by_cases hc18 : p1 = 5
  · have h := zif_t hc18 h
    refine zr_tableIn (off := 79) (tgt := 92) C (by rw [hc18]; decide) (by rw [hc18]; decide) (by rw [hc18]; decide) (by decide) dX5_ofProject_13 ?_
    refine zr_aload_n C 0 rfl rfl dX5_ofProject_92 ?_
    refine zr_get (ci := 3) (k := 7) (v := .int (I (G (F h0 5) p0.toNatClampNeg) 7)) C (zt9 hZ (zt55 hZ k_h0).1 (z_ix (zt55 hZ k_h0).2 hc3)) (by decide) rfl zinX3 (by decide) wd_140 rfl dX5_ofProject_93 ?_
    obtain rfl := zso h
    exact zr_iret C hr dX5_ofProject_96
  have h := zif_f hc18 h
  by_cases hc19 : p1 = 6
  · have h := zif_t hc19 h
    refine zr_tableIn (off := 84) (tgt := 97) C (by rw [hc19]; decide) (by rw [hc19]; decide) (by rw [hc19]; decide) (by decide) dX5_ofProject_13 ?_
    refine zr_aload_n C 0 rfl rfl dX5_ofProject_97 ?_
    refine zr_get (ci := 3) (k := 4) (v := .int (I (G (F h0 5) p0.toNatClampNeg) 4)) C (zt9 hZ (zt55 hZ k_h0).1 (z_ix (zt55 hZ k_h0).2 hc3)) (by decide) rfl zinX3 (by decide) wd_134 rfl dX5_ofProject_98 ?_
    obtain rfl := zso h
    exact zr_iret C hr dX5_ofProject_101
  have h := zif_f hc19 h
  refine zr_tableOut (tgt := 102) C (zsw_0_6 hc4 hc5 hc9 hc13 hc17 hc18 hc19) (by decide) dX5_ofProject_13 ?_
  exact zno h

def f_X5_remedy (F G : Nat → Nat → Nat) (h0 : Nat) (p0 : Int32) (I A : zH) : Option (Int32 × zH) :=
  zb (f_X5_needProject F G h0 p0 I A) fun _ =>
  zck (¬ (p0 < 0 ∨ 5 ≤ p0.toNatClampNeg)) <|
  zb2 (f_X3_fewestToEmpty F G (G (F h0 5) p0.toNatClampNeg) (F h0 6) I A) fun r4 A5 =>
  some (r4, A5)
set_option maxHeartbeats 4000000 in
set_option maxRecDepth 100000 in
theorem c_X5_remedy (l : Launch) (D : va_G) (cy : Nat → ClassId) {L : List Nat} {K N : Nat → Nat} {F G : Nat → Nat → Nat} (hZ : ZL L K N F G) (h0 : Nat) (p0 : Int32) (k_h0 : K h0 = 5) (I A : zH) {r : Int32} {B' : zH} (h : f_X5_remedy F G h0 p0 I A = some (r, B')) : ZMi l yX5_remedy cX5_remedy 2 (some .int) { frames := 4, cells := 0, slots := 0, locals := 98 } D cy L K N F G [.ref h0, .int p0] I A r I B' := by
  refine ZMi.of (nL := 2) hZ rfl rfl (by decide) (Nat.le_of_ble_eq_true rfl) (fun p e s m args below meth c C hr => ?_)
  unfold f_X5_remedy at h
  refine zr_lv (lv' := [(0, .ref h0), (1, .int p0)]) C [0, 1] rfl ?_
  refine zr_aload_n C 0 rfl rfl dX5_remedy_0 ?_
  refine zr_iload_n C 1 rfl rfl dX5_remedy_1 ?_
  obtain ⟨_, h1, h⟩ := zb_e h
  refine zr_callVv (n := 1) (As := [.int p0]) C (c_X5_needProject l D cy hZ h0 p0 k_h0 I A h1) wd_468 wd_470 wp_17 wd_1 wd_471 (by decide +kernel) ⟨(Nat.le_of_ble_eq_true rfl), (Nat.le_of_ble_eq_true rfl)⟩ rfl rfl ⟨Nat.le_of_ble_eq_true rfl, Nat.le_of_ble_eq_true rfl⟩ k_h0 (by decide) rfl rfl rfl (Nat.le_of_ble_eq_true rfl) dX5_remedy_2 ?_
  refine zr_aload_n C 0 rfl rfl dX5_remedy_5 ?_
  refine zr_get (ci := 5) (k := 5) (v := .ref (F h0 5)) C k_h0 (by decide) rfl zinX5 (by decide) wd_163 rfl dX5_remedy_6 ?_
  refine zr_iload_n C 1 rfl rfl dX5_remedy_9 ?_
  obtain ⟨hc3, h⟩ := zck_e h
  refine zr_ald9 C (zt55 hZ k_h0).1 (zt55 hZ k_h0).2 hc3 dX5_remedy_10 ?_
  refine zr_aload_n C 0 rfl rfl dX5_remedy_11 ?_
  refine zr_get (ci := 5) (k := 6) (v := .ref (F h0 6)) C k_h0 (by decide) rfl zinX5 (by decide) wd_164 rfl dX5_remedy_12 ?_
  obtain ⟨r4, A5, h6, h⟩ := zb2_e h
  refine zr_callVi (n := 1) (As := [.ref (F h0 6)]) C (c_X3_fewestToEmpty l D cy hZ (G (F h0 5) p0.toNatClampNeg) (F h0 6) (zt9 hZ (zt55 hZ k_h0).1 (z_ix (zt55 hZ k_h0).2 hc3)) (zt56 hZ k_h0) I A h6) wd_574 wd_575 wd_576 wd_6 wd_577 (by decide +kernel) ⟨(Nat.le_of_ble_eq_true rfl), (Nat.le_of_ble_eq_true rfl)⟩ rfl rfl ⟨Nat.le_of_ble_eq_true rfl, Nat.le_of_ble_eq_true rfl⟩ (zt9 hZ (zt55 hZ k_h0).1 (z_ix (zt55 hZ k_h0).2 hc3)) (by decide) rfl rfl rfl (Nat.le_of_ble_eq_true rfl) dX5_remedy_15 ?_
  cases zso h
  exact zr_iret C hr dX5_remedy_18

def f_X5_needNode (F G : Nat → Nat → Nat) (h0 : Nat) (p0 : Int32) (p1 : Int32) (I A : zH) : Option (Unit) :=
  zb (f_X5_needProject F G h0 p0 I A) fun _ =>
  zck (¬ (p0 < 0 ∨ 5 ≤ p0.toNatClampNeg)) <|
  zb (f_X3_hasNode F G (G (F h0 5) p0.toNatClampNeg) p1 I A) fun r4 =>
  if r4 = 0 then (
    none
  ) else (
    some ()
  )
set_option maxHeartbeats 4000000 in
set_option maxRecDepth 100000 in
theorem c_X5_needNode (l : Launch) (D : va_G) (cy : Nat → ClassId) {L : List Nat} {K N : Nat → Nat} {F G : Nat → Nat → Nat} (hZ : ZL L K N F G) (h0 : Nat) (p0 : Int32) (p1 : Int32) (k_h0 : K h0 = 5) (I A : zH) (h : f_X5_needNode F G h0 p0 p1 I A = some ()) : ZMv l yX5_needNode cX5_needNode 3 none { frames := 2, cells := 0, slots := 0, locals := 42 } D cy L K N F G [.ref h0, .int p0, .int p1] I A I A := by
  refine ZMv.of (nL := 3) hZ rfl rfl (by decide) (Nat.le_of_ble_eq_true rfl) (fun p e s m args below meth c C hr => ?_)
  unfold f_X5_needNode at h
  refine zr_lv (lv' := [(0, .ref h0), (1, .int p0), (2, .int p1)]) C [0, 1, 2] rfl ?_
  refine zr_aload_n C 0 rfl rfl dX5_needNode_0 ?_
  refine zr_iload_n C 1 rfl rfl dX5_needNode_1 ?_
  obtain ⟨_, h1, h⟩ := zb_e h
  refine zr_callVv (n := 1) (As := [.int p0]) C (c_X5_needProject l D cy hZ h0 p0 k_h0 I A h1) wd_468 wd_470 wp_17 wd_1 wd_471 (by decide +kernel) ⟨(Nat.le_of_ble_eq_true rfl), (Nat.le_of_ble_eq_true rfl)⟩ rfl rfl ⟨Nat.le_of_ble_eq_true rfl, Nat.le_of_ble_eq_true rfl⟩ k_h0 (by decide) rfl rfl rfl (Nat.le_of_ble_eq_true rfl) dX5_needNode_2 ?_
  refine zr_aload_n C 0 rfl rfl dX5_needNode_5 ?_
  refine zr_get (ci := 5) (k := 5) (v := .ref (F h0 5)) C k_h0 (by decide) rfl zinX5 (by decide) wd_163 rfl dX5_needNode_6 ?_
  refine zr_iload_n C 1 rfl rfl dX5_needNode_9 ?_
  obtain ⟨hc3, h⟩ := zck_e h
  refine zr_ald9 C (zt55 hZ k_h0).1 (zt55 hZ k_h0).2 hc3 dX5_needNode_10 ?_
  refine zr_iload_n C 2 rfl rfl dX5_needNode_11 ?_
  obtain ⟨r4, h5, h⟩ := zb_e h
  refine zr_callVi (n := 1) (As := [.int p1]) C (c_X3_hasNode l D cy hZ (G (F h0 5) p0.toNatClampNeg) p1 (zt9 hZ (zt55 hZ k_h0).1 (z_ix (zt55 hZ k_h0).2 hc3)) I A h5) wd_473 wd_474 wd_475 wd_6 wd_476 (by decide +kernel) ⟨(Nat.le_of_ble_eq_true rfl), (Nat.le_of_ble_eq_true rfl)⟩ rfl rfl ⟨Nat.le_of_ble_eq_true rfl, Nat.le_of_ble_eq_true rfl⟩ (zt9 hZ (zt55 hZ k_h0).1 (z_ix (zt55 hZ k_h0).2 hc3)) (by decide) rfl rfl rfl (Nat.le_of_ble_eq_true rfl) dX5_needNode_12 ?_
  refine zr_if_ne (tgt := 29) C (by decide) dX5_needNode_15 (fun hc7 => ?_) (fun hc7 => ?_)
  · have h := zif_f hc7 h
    exact zr_vret C hr dX5_needNode_29
  · have h := zif_t hc7 h
    exact zno h

def f_X5_ofNode (F G : Nat → Nat → Nat) (h0 : Nat) (p0 : Int32) (p1 : Int32) (p2 : Int32) (I A : zH) : Option (Int32) :=
  zb (f_X5_needNode F G h0 p0 p1 I A) fun _ =>
  zck (¬ (p0 < 0 ∨ 5 ≤ p0.toNatClampNeg)) <|
  if p2 = 0 then (
    zck (¬ (p1 < 0 ∨ 10 ≤ p1.toNatClampNeg)) <|
    some (A (F (G (F h0 5) p0.toNatClampNeg) 0) p1.toNatClampNeg)
  ) else (
  if p2 = 1 then (
    zck (¬ (p1 < 0 ∨ 10 ≤ p1.toNatClampNeg)) <|
    some (A (F (G (F h0 5) p0.toNatClampNeg) 2) p1.toNatClampNeg)
  ) else (
  if p2 = 2 then (
    zck (¬ (p1 < 0 ∨ 10 ≤ p1.toNatClampNeg)) <|
    zb (f_X0_licencesOf F G (F h0 6) (A (F (G (F h0 5) p0.toNatClampNeg) 2) p1.toNatClampNeg) I A) fun r10 =>
    some r10
  ) else (
  if p2 = 3 then (
    zck (¬ (p1 < 0 ∨ 10 ≤ p1.toNatClampNeg)) <|
    zb (f_X3_clashesOf F G (G (F h0 5) p0.toNatClampNeg) p1 (A (F (G (F h0 5) p0.toNatClampNeg) 2) p1.toNatClampNeg) (F h0 6) I A) fun r15 =>
    some r15
  ) else (
  if p2 = 4 then (
    zck (¬ (p1 < 0 ∨ 10 ≤ p1.toNatClampNeg)) <|
    zb (f_J6_bitCount_0f7a4 F G (A (F (G (F h0 5) p0.toNatClampNeg) 1) p1.toNatClampNeg) I A) fun r20 =>
    some r20
  ) else (
    none
  )))))
set_option maxHeartbeats 4000000 in
set_option maxRecDepth 100000 in
theorem c_X5_ofNode (l : Launch) (D : va_G) (cy : Nat → ClassId) {L : List Nat} {K N : Nat → Nat} {F G : Nat → Nat → Nat} (hZ : ZL L K N F G) (h0 : Nat) (p0 : Int32) (p1 : Int32) (p2 : Int32) (k_h0 : K h0 = 5) (I A : zH) {r : Int32} (h : f_X5_ofNode F G h0 p0 p1 p2 I A = some r) : ZMi l yX5_ofNode cX5_ofNode 5 (some .int) { frames := 3, cells := 0, slots := 0, locals := 64 } D cy L K N F G [.ref h0, .int p0, .int p1, .int p2] I A r I A := by
  refine ZMi.of (nL := 5) hZ rfl rfl (by decide) (Nat.le_of_ble_eq_true rfl) (fun p e s m args below meth c C hr => ?_)
  unfold f_X5_ofNode at h
  refine zr_lv (lv' := [(0, .ref h0), (1, .int p0), (2, .int p1), (3, .int p2)]) C [0, 1, 2, 3] rfl ?_
  refine zr_aload_n C 0 rfl rfl dX5_ofNode_0 ?_
  refine zr_iload_n C 1 rfl rfl dX5_ofNode_1 ?_
  refine zr_iload_n C 2 rfl rfl dX5_ofNode_2 ?_
  obtain ⟨_, h1, h⟩ := zb_e h
  refine zr_callVv (n := 2) (As := [.int p0, .int p1]) C (c_X5_needNode l D cy hZ h0 p0 p1 k_h0 I A h1) wd_464 wd_466 wp_16 wd_1 wd_467 (by decide +kernel) ⟨(Nat.le_of_ble_eq_true rfl), (Nat.le_of_ble_eq_true rfl)⟩ rfl rfl ⟨Nat.le_of_ble_eq_true rfl, Nat.le_of_ble_eq_true rfl⟩ k_h0 (by decide) rfl rfl rfl (Nat.le_of_ble_eq_true rfl) dX5_ofNode_3 ?_
  refine zr_aload_n C 0 rfl rfl dX5_ofNode_6 ?_
  refine zr_get (ci := 5) (k := 5) (v := .ref (F h0 5)) C k_h0 (by decide) rfl zinX5 (by decide) wd_163 rfl dX5_ofNode_7 ?_
  refine zr_iload_n C 1 rfl rfl dX5_ofNode_10 ?_
  obtain ⟨hc3, h⟩ := zck_e h
  refine zr_ald9 C (zt55 hZ k_h0).1 (zt55 hZ k_h0).2 hc3 dX5_ofNode_11 ?_
  refine zr_astore (lv' := [(4, .ref (G (F h0 5) p0.toNatClampNeg)), (0, .ref h0), (1, .int p0), (2, .int p1), (3, .int p2)]) C (by decide) rfl dX5_ofNode_12 ?_
  refine zr_iload_n C 4 rfl rfl dX5_ofNode_14 ?_
  by_cases hc4 : p2 = 0
  · have h := zif_t hc4 h
    refine zr_tableIn (off := 33) (tgt := 48) C (by rw [hc4]; decide) (by rw [hc4]; decide) (by rw [hc4]; decide) (by decide) dX5_ofNode_15 ?_
    refine zr_aload C 0 rfl dX5_ofNode_48 ?_
    refine zr_get (ci := 3) (k := 0) (v := .ref (F (G (F h0 5) p0.toNatClampNeg) 0)) C (zt9 hZ (zt55 hZ k_h0).1 (z_ix (zt55 hZ k_h0).2 hc3)) (by decide) rfl zinX3 (by decide) wd_127 rfl dX5_ofNode_50 ?_
    refine zr_iload_n C 3 rfl rfl dX5_ofNode_53 ?_
    obtain ⟨hc5, h⟩ := zck_e h
    refine zr_iald C (zt3 hZ (zt9 hZ (zt55 hZ k_h0).1 (z_ix (zt55 hZ k_h0).2 hc3)) 0 (by decide)).1 (zt3 hZ (zt9 hZ (zt55 hZ k_h0).1 (z_ix (zt55 hZ k_h0).2 hc3)) 0 (by decide)).2 hc5 dX5_ofNode_54 ?_
    obtain rfl := zso h
    exact zr_iret C hr dX5_ofNode_55
  have h := zif_f hc4 h
  by_cases hc6 : p2 = 1
  · have h := zif_t hc6 h
    refine zr_tableIn (off := 41) (tgt := 56) C (by rw [hc6]; decide) (by rw [hc6]; decide) (by rw [hc6]; decide) (by decide) dX5_ofNode_15 ?_
    refine zr_aload C 0 rfl dX5_ofNode_56 ?_
    refine zr_get (ci := 3) (k := 2) (v := .ref (F (G (F h0 5) p0.toNatClampNeg) 2)) C (zt9 hZ (zt55 hZ k_h0).1 (z_ix (zt55 hZ k_h0).2 hc3)) (by decide) rfl zinX3 (by decide) wd_131 rfl dX5_ofNode_58 ?_
    refine zr_iload_n C 3 rfl rfl dX5_ofNode_61 ?_
    obtain ⟨hc7, h⟩ := zck_e h
    refine zr_iald C (zt3 hZ (zt9 hZ (zt55 hZ k_h0).1 (z_ix (zt55 hZ k_h0).2 hc3)) 2 (by decide)).1 (zt3 hZ (zt9 hZ (zt55 hZ k_h0).1 (z_ix (zt55 hZ k_h0).2 hc3)) 2 (by decide)).2 hc7 dX5_ofNode_62 ?_
    obtain rfl := zso h
    exact zr_iret C hr dX5_ofNode_63
  have h := zif_f hc6 h
  by_cases hc8 : p2 = 2
  · have h := zif_t hc8 h
    refine zr_tableIn (off := 49) (tgt := 64) C (by rw [hc8]; decide) (by rw [hc8]; decide) (by rw [hc8]; decide) (by decide) dX5_ofNode_15 ?_
    refine zr_aload_n C 1 rfl rfl dX5_ofNode_64 ?_
    refine zr_get (ci := 5) (k := 6) (v := .ref (F h0 6)) C k_h0 (by decide) rfl zinX5 (by decide) wd_164 rfl dX5_ofNode_65 ?_
    refine zr_aload C 0 rfl dX5_ofNode_68 ?_
    refine zr_get (ci := 3) (k := 2) (v := .ref (F (G (F h0 5) p0.toNatClampNeg) 2)) C (zt9 hZ (zt55 hZ k_h0).1 (z_ix (zt55 hZ k_h0).2 hc3)) (by decide) rfl zinX3 (by decide) wd_131 rfl dX5_ofNode_70 ?_
    refine zr_iload_n C 3 rfl rfl dX5_ofNode_73 ?_
    obtain ⟨hc9, h⟩ := zck_e h
    refine zr_iald C (zt3 hZ (zt9 hZ (zt55 hZ k_h0).1 (z_ix (zt55 hZ k_h0).2 hc3)) 2 (by decide)).1 (zt3 hZ (zt9 hZ (zt55 hZ k_h0).1 (z_ix (zt55 hZ k_h0).2 hc3)) 2 (by decide)).2 hc9 dX5_ofNode_74 ?_
    obtain ⟨r10, h11, h⟩ := zb_e h
    refine zr_callVi (n := 1) (As := [.int (A (F (G (F h0 5) p0.toNatClampNeg) 2) p1.toNatClampNeg)]) C (c_X0_licencesOf l D cy hZ (F h0 6) (A (F (G (F h0 5) p0.toNatClampNeg) 2) p1.toNatClampNeg) (zt56 hZ k_h0) I A h11) wd_314 wd_315 wd_316 wd_3 wd_317 (by decide +kernel) ⟨(Nat.le_of_ble_eq_true rfl), (Nat.le_of_ble_eq_true rfl)⟩ rfl rfl ⟨Nat.le_of_ble_eq_true rfl, Nat.le_of_ble_eq_true rfl⟩ (zt56 hZ k_h0) (by decide) rfl rfl rfl (Nat.le_of_ble_eq_true rfl) dX5_ofNode_75 ?_
    obtain rfl := zso h
    exact zr_iret C hr dX5_ofNode_78
  have h := zif_f hc8 h
  by_cases hc13 : p2 = 3
  · have h := zif_t hc13 h
    refine zr_tableIn (off := 64) (tgt := 79) C (by rw [hc13]; decide) (by rw [hc13]; decide) (by rw [hc13]; decide) (by decide) dX5_ofNode_15 ?_
    refine zr_aload C 0 rfl dX5_ofNode_79 ?_
    refine zr_iload_n C 3 rfl rfl dX5_ofNode_81 ?_
    refine zr_aload C 0 rfl dX5_ofNode_82 ?_
    refine zr_get (ci := 3) (k := 2) (v := .ref (F (G (F h0 5) p0.toNatClampNeg) 2)) C (zt9 hZ (zt55 hZ k_h0).1 (z_ix (zt55 hZ k_h0).2 hc3)) (by decide) rfl zinX3 (by decide) wd_131 rfl dX5_ofNode_84 ?_
    refine zr_iload_n C 3 rfl rfl dX5_ofNode_87 ?_
    obtain ⟨hc14, h⟩ := zck_e h
    refine zr_iald C (zt3 hZ (zt9 hZ (zt55 hZ k_h0).1 (z_ix (zt55 hZ k_h0).2 hc3)) 2 (by decide)).1 (zt3 hZ (zt9 hZ (zt55 hZ k_h0).1 (z_ix (zt55 hZ k_h0).2 hc3)) 2 (by decide)).2 hc14 dX5_ofNode_88 ?_
    refine zr_aload_n C 1 rfl rfl dX5_ofNode_89 ?_
    refine zr_get (ci := 5) (k := 6) (v := .ref (F h0 6)) C k_h0 (by decide) rfl zinX5 (by decide) wd_164 rfl dX5_ofNode_90 ?_
    obtain ⟨r15, h16, h⟩ := zb_e h
    refine zr_callVi (n := 3) (As := [.int p1, .int (A (F (G (F h0 5) p0.toNatClampNeg) 2) p1.toNatClampNeg), .ref (F h0 6)]) C (c_X3_clashesOf l D cy hZ (G (F h0 5) p0.toNatClampNeg) p1 (A (F (G (F h0 5) p0.toNatClampNeg) 2) p1.toNatClampNeg) (F h0 6) (zt9 hZ (zt55 hZ k_h0).1 (z_ix (zt55 hZ k_h0).2 hc3)) (zt56 hZ k_h0) I A h16) wd_632 wd_347 wd_348 wd_6 wd_349 (by decide +kernel) ⟨(Nat.le_of_ble_eq_true rfl), (Nat.le_of_ble_eq_true rfl)⟩ rfl rfl ⟨Nat.le_of_ble_eq_true rfl, Nat.le_of_ble_eq_true rfl⟩ (zt9 hZ (zt55 hZ k_h0).1 (z_ix (zt55 hZ k_h0).2 hc3)) (by decide) rfl rfl rfl (Nat.le_of_ble_eq_true rfl) dX5_ofNode_93 ?_
    obtain rfl := zso h
    exact zr_iret C hr dX5_ofNode_96
  have h := zif_f hc13 h
  by_cases hc18 : p2 = 4
  · have h := zif_t hc18 h
    refine zr_tableIn (off := 82) (tgt := 97) C (by rw [hc18]; decide) (by rw [hc18]; decide) (by rw [hc18]; decide) (by decide) dX5_ofNode_15 ?_
    refine zr_aload C 0 rfl dX5_ofNode_97 ?_
    refine zr_get (ci := 3) (k := 1) (v := .ref (F (G (F h0 5) p0.toNatClampNeg) 1)) C (zt9 hZ (zt55 hZ k_h0).1 (z_ix (zt55 hZ k_h0).2 hc3)) (by decide) rfl zinX3 (by decide) wd_129 rfl dX5_ofNode_99 ?_
    refine zr_iload_n C 3 rfl rfl dX5_ofNode_102 ?_
    obtain ⟨hc19, h⟩ := zck_e h
    refine zr_iald C (zt3 hZ (zt9 hZ (zt55 hZ k_h0).1 (z_ix (zt55 hZ k_h0).2 hc3)) 1 (by decide)).1 (zt3 hZ (zt9 hZ (zt55 hZ k_h0).1 (z_ix (zt55 hZ k_h0).2 hc3)) 1 (by decide)).2 hc19 dX5_ofNode_103 ?_
    obtain ⟨r20, h21, h⟩ := zb_e h
    refine zr_callSi (n := 1) (As := [.int (A (F (G (F h0 5) p0.toNatClampNeg) 1) p1.toNatClampNeg)]) C (c_J6_bitCount_0f7a4 l D cy hZ (A (F (G (F h0 5) p0.toNatClampNeg) 1) p1.toNatClampNeg) I A h21) wd_503 wd_359 wd_12 wd_360 (by decide +kernel) ⟨(Nat.le_of_ble_eq_true rfl), (Nat.le_of_ble_eq_true rfl)⟩ rfl rfl ⟨Nat.le_of_ble_eq_true rfl, Nat.le_of_ble_eq_true rfl⟩ rfl rfl (Nat.le_of_ble_eq_true rfl) dX5_ofNode_104 ?_
    obtain rfl := zso h
    exact zr_iret C hr dX5_ofNode_107
  have h := zif_f hc18 h
  refine zr_tableOut (tgt := 108) C (zsw_0_4 hc4 hc6 hc8 hc13 hc18) (by decide) dX5_ofNode_15 ?_
  exact zno h

