def g_X5_substitute_38 (F G : Nat → Nat → Nat) (v0 : Nat) (v2 : Int32) (v3 : Nat) (v4 : Int32) (v5 : Int32) (v6 : Int32) (v7 : Int32) (I : zH) (A : zH) : Option ((Int32 × Int32 × Int32) ⊕ (Int32 × Int32 × Int32)) :=
  if (I v0 8) ≤ v7 then (
    some (.inr (v5, v6, v7))
  ) else (
    zck (¬ (v4 < 0 ∨ 16 ≤ v4.toNatClampNeg)) <|
    zck (¬ (v7 < 0 ∨ 16 ≤ v7.toNatClampNeg)) <|
    if v7 = v4 then (
      some (.inl (v5, v6, v7 + 1))
    ) else (
      if (A (G (F v0 2) v4.toNatClampNeg) v7.toNatClampNeg) ≤ v6 then (
        some (.inl (v5, v6, v7 + 1))
      ) else (
        zb (f_X3_clashesOf F G v3 v2 v7 (F v0 6) I A) fun r6 =>
        if r6 = 0 then (
          some (.inl (v7, A (G (F v0 2) v4.toNatClampNeg) v7.toNatClampNeg, v7 + 1))
        ) else (
          some (.inl (v5, v6, v7 + 1))
        )
      )
    )
  )
def f_X5_substitute (F G : Nat → Nat → Nat) (h0 : Nat) (p0 : Int32) (p1 : Int32) (I A : zH) : Option (Int32) :=
  zb (f_X5_needNode F G h0 p0 p1 I A) fun _ =>
  zck (¬ (p0 < 0 ∨ 5 ≤ p0.toNatClampNeg)) <|
  zck (¬ (p1 < 0 ∨ 10 ≤ p1.toNatClampNeg)) <|
  if (A (F (G (F h0 5) p0.toNatClampNeg) 2) p1.toNatClampNeg) = (-1) then (
    some (-1)
  ) else (
    zb3 (zIt (fun x => g_X5_substitute_38 F G h0 p1 (G (F h0 5) p0.toNatClampNeg) (A (F (G (F h0 5) p0.toNatClampNeg) 2) p1.toNatClampNeg) x.1 x.2.1 x.2.2 I A) 2000 ((-1), (-1), 0)) fun i6 i7 i8 =>
    some i6
  )
set_option maxHeartbeats 4000000 in
set_option maxRecDepth 100000 in
theorem wb_X5_substitute_38 (l : Launch) (D : va_G) (cy : Nat → ClassId) {L : List Nat} {K N : Nat → Nat} {F G : Nat → Nat → Nat} (hZ : ZL L K N F G) {p : Program} {e : Env} {R : Room} {s : State} {m : MethodId} {args : Array Value} {below : List Frame} {meth : Method} {c : Code} {cells slots : Nat} {Q : State → Prop} (C : ZC p s m args meth c cX5_substitute yX5_substitute.cls 9 D cy L K N F G) (hRf : 2 ≤ R.frames) (hRl : 50 ≤ R.locals) (hRc : cells ≤ R.cells ∧ slots ≤ R.slots)  (v0 : Nat) (v2 : Int32) (v3 : Nat) (v4 : Int32) (k0 : K v0 = 5) (k3 : K v3 = 3) (I : zH) (A : zH) (v5 : Int32) (v6 : Int32) (v7 : Int32) (o : (Int32 × Int32 × Int32) ⊕ (Int32 × Int32 × Int32)) (h : g_X5_substitute_38 F G v0 v2 v3 v4 v5 v6 v7 I A = some o)
    (hg : ∀ y : Int32 × Int32 × Int32, o = .inl y → ZW p l e R s m args below meth c 9 D cy L K N F G cells slots Q I A 38 [(0, .ref v0), (2, .int v2), (3, .ref v3), (4, .int v4), (5, .int y.1), (6, .int y.2.1), (7, .int y.2.2)] [])
    (hx : ∀ y : Int32 × Int32 × Int32, o = .inr y → ZW p l e R s m args below meth c 9 D cy L K N F G cells slots Q I A 101 [(0, .ref v0), (2, .int v2), (3, .ref v3), (4, .int v4), (5, .int y.1), (6, .int y.2.1), (7, .int y.2.2)] []) : ZW p l e R s m args below meth c 9 D cy L K N F G cells slots Q I A 38 [(0, .ref v0), (2, .int v2), (3, .ref v3), (4, .int v4), (5, .int v5), (6, .int v6), (7, .int v7)] [] := by
  unfold g_X5_substitute_38 at h
  refine zr_iload C 6 rfl dX5_substitute_38 ?_
  refine zr_aload_n C 0 rfl rfl dX5_substitute_40 ?_
  refine zr_get (ci := 5) (k := 8) (v := .int (I v0 8)) C k0 (by decide) rfl zinX5 (by decide) wd_166 rfl dX5_substitute_41 ?_
  refine zr_icmp_ge (tgt := 101) C (by decide) dX5_substitute_44 (fun hc1 => ?_) (fun hc1 => ?_)
  · have h := zif_t hc1 h
    obtain rfl := zso h
    refine zr_lv (lv' := [(0, .ref v0), (2, .int v2), (3, .ref v3), (4, .int v4), (5, .int v5), (6, .int v6), (7, .int v7)]) C [0, 1, 2, 3, 4, 5, 6] rfl ?_
    exact hx _ rfl
  · have h := zif_f hc1 h
    refine zr_aload_n C 0 rfl rfl dX5_substitute_47 ?_
    refine zr_get (ci := 5) (k := 2) (v := .ref (F v0 2)) C k0 (by decide) rfl zinX5 (by decide) wd_160 rfl dX5_substitute_48 ?_
    refine zr_iload C 3 rfl dX5_substitute_51 ?_
    obtain ⟨hc2, h⟩ := zck_e h
    refine zr_ald10 C (zt52 hZ k0).1 (zt52 hZ k0).2 hc2 dX5_substitute_53 ?_
    refine zr_iload C 6 rfl dX5_substitute_54 ?_
    obtain ⟨hc3, h⟩ := zck_e h
    refine zr_iald C (zt10 hZ (zt52 hZ k0).1 (z_ix (zt52 hZ k0).2 hc2)).1 (zt10 hZ (zt52 hZ k0).1 (z_ix (zt52 hZ k0).2 hc2)).2 hc3 dX5_substitute_56 ?_
    refine zr_istore (lv' := [(8, .int (A (G (F v0 2) v4.toNatClampNeg) v7.toNatClampNeg)), (0, .ref v0), (2, .int v2), (3, .ref v3), (4, .int v4), (5, .int v5), (6, .int v6), (7, .int v7)]) C (by decide) rfl dX5_substitute_57 ?_
    refine zr_iload C 7 rfl dX5_substitute_59 ?_
    refine zr_iload C 4 rfl dX5_substitute_61 ?_
    refine zr_icmp_eq (tgt := 95) C (by decide) dX5_substitute_63 (fun hc4 => ?_) (fun hc4 => ?_)
    · have h := zif_t hc4 h
      refine zr_iinc (v := v7 + 1) (lv' := [(7, .int (v7 + 1)), (8, .int (A (G (F v0 2) v4.toNatClampNeg) v7.toNatClampNeg)), (0, .ref v0), (2, .int v2), (3, .ref v3), (4, .int v4), (5, .int v5), (6, .int v6)]) C 7 rfl rfl (by decide) rfl dX5_substitute_95 ?_
      refine zr_goto (tgt := 38) C (by decide) dX5_substitute_98 ?_
      obtain rfl := zso h
      refine zr_lv (lv' := [(0, .ref v0), (2, .int v2), (3, .ref v3), (4, .int v4), (5, .int v5), (6, .int v6), (7, .int (v7 + 1))]) C [2, 3, 4, 5, 6, 7, 0] rfl ?_
      exact hg _ rfl
    · have h := zif_f hc4 h
      refine zr_iload C 0 rfl dX5_substitute_66 ?_
      refine zr_iload C 6 rfl dX5_substitute_68 ?_
      refine zr_icmp_le (tgt := 95) C (by decide) dX5_substitute_70 (fun hc5 => ?_) (fun hc5 => ?_)
      · have h := zif_t hc5 h
        refine zr_iinc (v := v7 + 1) (lv' := [(7, .int (v7 + 1)), (8, .int (A (G (F v0 2) v4.toNatClampNeg) v7.toNatClampNeg)), (0, .ref v0), (2, .int v2), (3, .ref v3), (4, .int v4), (5, .int v5), (6, .int v6)]) C 7 rfl rfl (by decide) rfl dX5_substitute_95 ?_
        refine zr_goto (tgt := 38) C (by decide) dX5_substitute_98 ?_
        obtain rfl := zso h
        refine zr_lv (lv' := [(0, .ref v0), (2, .int v2), (3, .ref v3), (4, .int v4), (5, .int v5), (6, .int v6), (7, .int (v7 + 1))]) C [2, 3, 4, 5, 6, 7, 0] rfl ?_
        exact hg _ rfl
      · have h := zif_f hc5 h
        refine zr_aload_n C 3 rfl rfl dX5_substitute_73 ?_
        refine zr_iload_n C 2 rfl rfl dX5_substitute_74 ?_
        refine zr_iload C 7 rfl dX5_substitute_75 ?_
        refine zr_aload_n C 1 rfl rfl dX5_substitute_77 ?_
        refine zr_get (ci := 5) (k := 6) (v := .ref (F v0 6)) C k0 (by decide) rfl zinX5 (by decide) wd_164 rfl dX5_substitute_78 ?_
        obtain ⟨r6, h7, h⟩ := zb_e h
        refine zr_callVi (n := 3) (As := [.int v2, .int v7, .ref (F v0 6)]) C (c_X3_clashesOf l D cy hZ v3 v2 v7 (F v0 6) k3 (zt56 hZ k0) I A h7) wd_632 wd_347 wd_348 wd_6 wd_349 (by decide +kernel) ⟨(Nat.le_trans (Nat.le_of_ble_eq_true rfl) hRf), (Nat.le_trans (Nat.le_of_ble_eq_true rfl) hRl)⟩ rfl rfl hRc k3 (by decide) rfl rfl rfl (Nat.le_of_ble_eq_true rfl) dX5_substitute_81 ?_
        refine zr_if_ne (tgt := 95) C (by decide) dX5_substitute_84 (fun hc9 => ?_) (fun hc9 => ?_)
        · have h := zif_f hc9 h
          refine zr_iinc (v := v7 + 1) (lv' := [(7, .int (v7 + 1)), (8, .int (A (G (F v0 2) v4.toNatClampNeg) v7.toNatClampNeg)), (0, .ref v0), (2, .int v2), (3, .ref v3), (4, .int v4), (5, .int v5), (6, .int v6)]) C 7 rfl rfl (by decide) rfl dX5_substitute_95 ?_
          refine zr_goto (tgt := 38) C (by decide) dX5_substitute_98 ?_
          obtain rfl := zso h
          refine zr_lv (lv' := [(0, .ref v0), (2, .int v2), (3, .ref v3), (4, .int v4), (5, .int v5), (6, .int v6), (7, .int (v7 + 1))]) C [2, 3, 4, 5, 6, 7, 0] rfl ?_
          exact hg _ rfl
        · have h := zif_t hc9 h
          refine zr_iload C 7 rfl dX5_substitute_87 ?_
          refine zr_istore (lv' := [(5, .int v7), (8, .int (A (G (F v0 2) v4.toNatClampNeg) v7.toNatClampNeg)), (0, .ref v0), (2, .int v2), (3, .ref v3), (4, .int v4), (6, .int v6), (7, .int v7)]) C (by decide) rfl dX5_substitute_89 ?_
          refine zr_iload C 1 rfl dX5_substitute_91 ?_
          refine zr_istore (lv' := [(6, .int (A (G (F v0 2) v4.toNatClampNeg) v7.toNatClampNeg)), (5, .int v7), (8, .int (A (G (F v0 2) v4.toNatClampNeg) v7.toNatClampNeg)), (0, .ref v0), (2, .int v2), (3, .ref v3), (4, .int v4), (7, .int v7)]) C (by decide) rfl dX5_substitute_93 ?_
          refine zr_iinc (v := v7 + 1) (lv' := [(7, .int (v7 + 1)), (6, .int (A (G (F v0 2) v4.toNatClampNeg) v7.toNatClampNeg)), (5, .int v7), (8, .int (A (G (F v0 2) v4.toNatClampNeg) v7.toNatClampNeg)), (0, .ref v0), (2, .int v2), (3, .ref v3), (4, .int v4)]) C 7 rfl rfl (by decide) rfl dX5_substitute_95 ?_
          refine zr_goto (tgt := 38) C (by decide) dX5_substitute_98 ?_
          obtain rfl := zso h
          refine zr_lv (lv' := [(0, .ref v0), (2, .int v2), (3, .ref v3), (4, .int v4), (5, .int v7), (6, .int (A (G (F v0 2) v4.toNatClampNeg) v7.toNatClampNeg)), (7, .int (v7 + 1))]) C [4, 5, 6, 7, 2, 1, 0] rfl ?_
          exact hg _ rfl
set_option maxHeartbeats 4000000 in
set_option maxRecDepth 100000 in
theorem w_X5_substitute_38 (l : Launch) (D : va_G) (cy : Nat → ClassId) {L : List Nat} {K N : Nat → Nat} {F G : Nat → Nat → Nat} (hZ : ZL L K N F G) {p : Program} {e : Env} {R : Room} {s : State} {m : MethodId} {args : Array Value} {below : List Frame} {meth : Method} {c : Code} {cells slots : Nat} {Q : State → Prop} (C : ZC p s m args meth c cX5_substitute yX5_substitute.cls 9 D cy L K N F G) (hRf : 2 ≤ R.frames) (hRl : 50 ≤ R.locals) (hRc : cells ≤ R.cells ∧ slots ≤ R.slots)  (v0 : Nat) (v2 : Int32) (v3 : Nat) (v4 : Int32) (k0 : K v0 = 5) (k3 : K v3 = 3) (I : zH) (A : zH) (n : Nat) (x : Int32 × Int32 × Int32) (o : Int32 × Int32 × Int32) (h : zIt (fun x => g_X5_substitute_38 F G v0 v2 v3 v4 x.1 x.2.1 x.2.2 I A) n x = some o)
    (hx : ZW p l e R s m args below meth c 9 D cy L K N F G cells slots Q I A 101 [(0, .ref v0), (2, .int v2), (3, .ref v3), (4, .int v4), (5, .int o.1), (6, .int o.2.1), (7, .int o.2.2)] []) : ZW p l e R s m args below meth c 9 D cy L K N F G cells slots Q I A 38 [(0, .ref v0), (2, .int v2), (3, .ref v3), (4, .int v4), (5, .int x.1), (6, .int x.2.1), (7, .int x.2.2)] [] := by
  induction n generalizing x with
  | zero => cases h
  | succ n ih =>
    unfold zIt at h
    cases hb : g_X5_substitute_38 F G v0 v2 v3 v4 x.1 x.2.1 x.2.2 I A with
    | none => rw [hb] at h; cases h
    | some q =>
      rw [hb] at h
      refine wb_X5_substitute_38 l D cy hZ C hRf hRl hRc v0 v2 v3 v4 k0 k3 I A x.1 x.2.1 x.2.2 q hb (fun y hy => ?_) (fun y hy => ?_)
      · subst hy; exact ih y h
      · subst hy; cases h; exact hx
set_option maxHeartbeats 4000000 in
set_option maxRecDepth 100000 in
theorem c_X5_substitute (l : Launch) (D : va_G) (cy : Nat → ClassId) {L : List Nat} {K N : Nat → Nat} {F G : Nat → Nat → Nat} (hZ : ZL L K N F G) (h0 : Nat) (p0 : Int32) (p1 : Int32) (k_h0 : K h0 = 5) (I A : zH) {r : Int32} (h : f_X5_substitute F G h0 p0 p1 I A = some r) : ZMi l yX5_substitute cX5_substitute 9 (some .int) { frames := 3, cells := 0, slots := 0, locals := 64 } D cy L K N F G [.ref h0, .int p0, .int p1] I A r I A := by
  refine ZMi.of (nL := 9) hZ rfl rfl (by decide) (Nat.le_of_ble_eq_true rfl) (fun p e s m args below meth c C hr => ?_)
  unfold f_X5_substitute at h
  refine zr_lv (lv' := [(0, .ref h0), (1, .int p0), (2, .int p1)]) C [0, 1, 2] rfl ?_
  refine zr_aload_n C 0 rfl rfl dX5_substitute_0 ?_
  refine zr_iload_n C 1 rfl rfl dX5_substitute_1 ?_
  refine zr_iload_n C 2 rfl rfl dX5_substitute_2 ?_
  obtain ⟨_, h1, h⟩ := zb_e h
  refine zr_callVv (n := 2) (As := [.int p0, .int p1]) C (c_X5_needNode l D cy hZ h0 p0 p1 k_h0 I A h1) wd_464 wd_466 wp_16 wd_1 wd_467 (by decide +kernel) ⟨(Nat.le_of_ble_eq_true rfl), (Nat.le_of_ble_eq_true rfl)⟩ rfl rfl ⟨Nat.le_of_ble_eq_true rfl, Nat.le_of_ble_eq_true rfl⟩ k_h0 (by decide) rfl rfl rfl (Nat.le_of_ble_eq_true rfl) dX5_substitute_3 ?_
  refine zr_aload_n C 0 rfl rfl dX5_substitute_6 ?_
  refine zr_get (ci := 5) (k := 5) (v := .ref (F h0 5)) C k_h0 (by decide) rfl zinX5 (by decide) wd_163 rfl dX5_substitute_7 ?_
  refine zr_iload_n C 1 rfl rfl dX5_substitute_10 ?_
  obtain ⟨hc3, h⟩ := zck_e h
  refine zr_ald9 C (zt55 hZ k_h0).1 (zt55 hZ k_h0).2 hc3 dX5_substitute_11 ?_
  refine zr_astore_n (lv' := [(3, .ref (G (F h0 5) p0.toNatClampNeg)), (0, .ref h0), (1, .int p0), (2, .int p1)]) C rfl (by decide) rfl dX5_substitute_12 ?_
  refine zr_aload_n C 0 rfl rfl dX5_substitute_13 ?_
  refine zr_get (ci := 3) (k := 2) (v := .ref (F (G (F h0 5) p0.toNatClampNeg) 2)) C (zt9 hZ (zt55 hZ k_h0).1 (z_ix (zt55 hZ k_h0).2 hc3)) (by decide) rfl zinX3 (by decide) wd_131 rfl dX5_substitute_14 ?_
  refine zr_iload_n C 3 rfl rfl dX5_substitute_17 ?_
  obtain ⟨hc4, h⟩ := zck_e h
  refine zr_iald C (zt3 hZ (zt9 hZ (zt55 hZ k_h0).1 (z_ix (zt55 hZ k_h0).2 hc3)) 2 (by decide)).1 (zt3 hZ (zt9 hZ (zt55 hZ k_h0).1 (z_ix (zt55 hZ k_h0).2 hc3)) 2 (by decide)).2 hc4 dX5_substitute_18 ?_
  refine zr_istore (lv' := [(4, .int (A (F (G (F h0 5) p0.toNatClampNeg) 2) p1.toNatClampNeg)), (3, .ref (G (F h0 5) p0.toNatClampNeg)), (0, .ref h0), (1, .int p0), (2, .int p1)]) C (by decide) rfl dX5_substitute_19 ?_
  refine zr_iload C 0 rfl dX5_substitute_21 ?_
  refine zr_iconst (v := (-1)) C (by decide) dX5_substitute_23 ?_
  refine zr_icmp_ne (tgt := 29) C (by decide) dX5_substitute_24 (fun hc5 => ?_) (fun hc5 => ?_)
  · have h := zif_f hc5 h
    refine zr_iconst (v := (-1)) C (by decide) dX5_substitute_29 ?_
    refine zr_istore (lv' := [(5, .int (-1)), (4, .int (A (F (G (F h0 5) p0.toNatClampNeg) 2) p1.toNatClampNeg)), (3, .ref (G (F h0 5) p0.toNatClampNeg)), (0, .ref h0), (1, .int p0), (2, .int p1)]) C (by decide) rfl dX5_substitute_30 ?_
    refine zr_iconst (v := (-1)) C (by decide) dX5_substitute_32 ?_
    refine zr_istore (lv' := [(6, .int (-1)), (5, .int (-1)), (4, .int (A (F (G (F h0 5) p0.toNatClampNeg) 2) p1.toNatClampNeg)), (3, .ref (G (F h0 5) p0.toNatClampNeg)), (0, .ref h0), (1, .int p0), (2, .int p1)]) C (by decide) rfl dX5_substitute_33 ?_
    refine zr_iconst (v := 0) C (by decide) dX5_substitute_35 ?_
    refine zr_istore (lv' := [(7, .int 0), (6, .int (-1)), (5, .int (-1)), (4, .int (A (F (G (F h0 5) p0.toNatClampNeg) 2) p1.toNatClampNeg)), (3, .ref (G (F h0 5) p0.toNatClampNeg)), (0, .ref h0), (1, .int p0), (2, .int p1)]) C (by decide) rfl dX5_substitute_36 ?_
    obtain ⟨i6, i7, i8, h9, h⟩ := zb3_e h
    refine zr_lv (lv' := [(0, .ref h0), (2, .int p1), (3, .ref (G (F h0 5) p0.toNatClampNeg)), (4, .int (A (F (G (F h0 5) p0.toNatClampNeg) 2) p1.toNatClampNeg)), (5, .int (-1)), (6, .int (-1)), (7, .int 0)]) C [5, 7, 4, 3, 2, 1, 0] rfl ?_
    refine w_X5_substitute_38 l D cy hZ C (Nat.le_of_ble_eq_true rfl) (Nat.le_of_ble_eq_true rfl) ⟨Nat.le_of_ble_eq_true rfl, Nat.le_of_ble_eq_true rfl⟩ h0 p1 (G (F h0 5) p0.toNatClampNeg) (A (F (G (F h0 5) p0.toNatClampNeg) 2) p1.toNatClampNeg) k_h0 (zt9 hZ (zt55 hZ k_h0).1 (z_ix (zt55 hZ k_h0).2 hc3)) I A 2000 ((-1), (-1), 0) (i6, i7, i8) h9 ?_
    refine zr_iload C 4 rfl dX5_substitute_101 ?_
    obtain rfl := zso h
    exact zr_iret C hr dX5_substitute_103
  · have h := zif_t hc5 h
    refine zr_iconst (v := (-1)) C (by decide) dX5_substitute_27 ?_
    obtain rfl := zso h
    exact zr_iret C hr dX5_substitute_28

def g_X5_foldNode_6 (F G : Nat → Nat → Nat) (v0 : Nat) (v3 : Int32) (v4 : Int32) (v5 : Int64) (v7 : Int32) (I : zH) (A : zH) : Option ((Int64 × Int32) ⊕ (Int64 × Int32)) :=
  if 5 ≤ v7 then (
    some (.inr (v5, v7))
  ) else (
    zb (f_X5_ofNode F G v0 v3 v4 v7 I A) fun r2 =>
    zb (f_X5_fold F G v5 r2 I A) fun r5 =>
    some (.inl (r5, v7 + 1))
  )
def f_X5_foldNode (F G : Nat → Nat → Nat) (h0 : Nat) (p0 : Int64) (p1 : Int32) (p2 : Int32) (I A : zH) : Option (Int64) :=
  zb2 (zIt (fun x => g_X5_foldNode_6 F G h0 p1 p2 x.1 x.2 I A) 2000 (p0, 0)) fun j1 i2 =>
  zb (f_X5_substitute F G h0 p1 p2 I A) fun r3 =>
  zb (f_X5_fold F G j1 r3 I A) fun r6 =>
  some r6
set_option maxHeartbeats 4000000 in
set_option maxRecDepth 100000 in
theorem wb_X5_foldNode_6 (l : Launch) (D : va_G) (cy : Nat → ClassId) {L : List Nat} {K N : Nat → Nat} {F G : Nat → Nat → Nat} (hZ : ZL L K N F G) {p : Program} {e : Env} {R : Room} {s : State} {m : MethodId} {args : Array Value} {below : List Frame} {meth : Method} {c : Code} {cells slots : Nat} {Q : State → Prop} (C : ZC p s m args meth c cX5_foldNode yX5_foldNode.cls 8 D cy L K N F G) (hRf : 4 ≤ R.frames) (hRl : 88 ≤ R.locals) (hRc : cells ≤ R.cells ∧ slots ≤ R.slots)  (v0 : Nat) (v3 : Int32) (v4 : Int32) (k0 : K v0 = 5) (I : zH) (A : zH) (v5 : Int64) (v7 : Int32) (o : (Int64 × Int32) ⊕ (Int64 × Int32)) (h : g_X5_foldNode_6 F G v0 v3 v4 v5 v7 I A = some o)
    (hg : ∀ y : Int64 × Int32, o = .inl y → ZW p l e R s m args below meth c 8 D cy L K N F G cells slots Q I A 6 [(0, .ref v0), (3, .int v3), (4, .int v4), (5, .long y.1), (7, .int y.2)] [])
    (hx : ∀ y : Int64 × Int32, o = .inr y → ZW p l e R s m args below meth c 8 D cy L K N F G cells slots Q I A 34 [(0, .ref v0), (3, .int v3), (4, .int v4), (5, .long y.1), (7, .int y.2)] []) : ZW p l e R s m args below meth c 8 D cy L K N F G cells slots Q I A 6 [(0, .ref v0), (3, .int v3), (4, .int v4), (5, .long v5), (7, .int v7)] [] := by
  unfold g_X5_foldNode_6 at h
  refine zr_iload C 4 rfl dX5_foldNode_6 ?_
  refine zr_iconst (v := 5) C (by decide) dX5_foldNode_8 ?_
  refine zr_icmp_ge (tgt := 34) C (by decide) dX5_foldNode_9 (fun hc1 => ?_) (fun hc1 => ?_)
  · have h := zif_t hc1 h
    obtain rfl := zso h
    refine zr_lv (lv' := [(0, .ref v0), (3, .int v3), (4, .int v4), (5, .long v5), (7, .int v7)]) C [0, 1, 2, 3, 4] rfl ?_
    exact hx _ rfl
  · have h := zif_f hc1 h
    refine zr_lload C 3 rfl dX5_foldNode_12 ?_
    refine zr_aload_n C 0 rfl rfl dX5_foldNode_14 ?_
    refine zr_iload_n C 1 rfl rfl dX5_foldNode_15 ?_
    refine zr_iload C 2 rfl dX5_foldNode_16 ?_
    refine zr_iload C 4 rfl dX5_foldNode_18 ?_
    obtain ⟨r2, h3, h⟩ := zb_e h
    refine zr_callVi (n := 3) (As := [.int v3, .int v4, .int v7]) C (c_X5_ofNode l D cy hZ v0 v3 v4 v7 k0 I A h3) wd_628 wd_629 wd_630 wd_1 wd_631 (by decide +kernel) ⟨(Nat.le_trans (Nat.le_of_ble_eq_true rfl) hRf), (Nat.le_trans (Nat.le_of_ble_eq_true rfl) hRl)⟩ rfl rfl hRc k0 (by decide) rfl rfl rfl (Nat.le_of_ble_eq_true rfl) dX5_foldNode_20 ?_
    obtain ⟨r5, h6, h⟩ := zb_e h
    refine zr_callSl (n := 2) (As := [.long v5, .int r2]) C (c_X5_fold l D cy hZ v5 r2 I A h6) wd_599 wd_600 wd_1 wd_601 (by decide +kernel) ⟨(Nat.le_trans (Nat.le_of_ble_eq_true rfl) hRf), (Nat.le_trans (Nat.le_of_ble_eq_true rfl) hRl)⟩ rfl rfl hRc rfl rfl (Nat.le_of_ble_eq_true rfl) dX5_foldNode_23 ?_
    refine zr_lstore (lv' := [(5, .long r5), (0, .ref v0), (3, .int v3), (4, .int v4), (7, .int v7)]) C (by decide) rfl dX5_foldNode_26 ?_
    refine zr_iinc (v := v7 + 1) (lv' := [(7, .int (v7 + 1)), (5, .long r5), (0, .ref v0), (3, .int v3), (4, .int v4)]) C 4 rfl rfl (by decide) rfl dX5_foldNode_28 ?_
    refine zr_goto (tgt := 6) C (by decide) dX5_foldNode_31 ?_
    obtain rfl := zso h
    refine zr_lv (lv' := [(0, .ref v0), (3, .int v3), (4, .int v4), (5, .long r5), (7, .int (v7 + 1))]) C [2, 3, 4, 1, 0] rfl ?_
    exact hg _ rfl
set_option maxHeartbeats 4000000 in
set_option maxRecDepth 100000 in
theorem w_X5_foldNode_6 (l : Launch) (D : va_G) (cy : Nat → ClassId) {L : List Nat} {K N : Nat → Nat} {F G : Nat → Nat → Nat} (hZ : ZL L K N F G) {p : Program} {e : Env} {R : Room} {s : State} {m : MethodId} {args : Array Value} {below : List Frame} {meth : Method} {c : Code} {cells slots : Nat} {Q : State → Prop} (C : ZC p s m args meth c cX5_foldNode yX5_foldNode.cls 8 D cy L K N F G) (hRf : 4 ≤ R.frames) (hRl : 88 ≤ R.locals) (hRc : cells ≤ R.cells ∧ slots ≤ R.slots)  (v0 : Nat) (v3 : Int32) (v4 : Int32) (k0 : K v0 = 5) (I : zH) (A : zH) (n : Nat) (x : Int64 × Int32) (o : Int64 × Int32) (h : zIt (fun x => g_X5_foldNode_6 F G v0 v3 v4 x.1 x.2 I A) n x = some o)
    (hx : ZW p l e R s m args below meth c 8 D cy L K N F G cells slots Q I A 34 [(0, .ref v0), (3, .int v3), (4, .int v4), (5, .long o.1), (7, .int o.2)] []) : ZW p l e R s m args below meth c 8 D cy L K N F G cells slots Q I A 6 [(0, .ref v0), (3, .int v3), (4, .int v4), (5, .long x.1), (7, .int x.2)] [] := by
  induction n generalizing x with
  | zero => cases h
  | succ n ih =>
    unfold zIt at h
    cases hb : g_X5_foldNode_6 F G v0 v3 v4 x.1 x.2 I A with
    | none => rw [hb] at h; cases h
    | some q =>
      rw [hb] at h
      refine wb_X5_foldNode_6 l D cy hZ C hRf hRl hRc v0 v3 v4 k0 I A x.1 x.2 q hb (fun y hy => ?_) (fun y hy => ?_)
      · subst hy; exact ih y h
      · subst hy; cases h; exact hx
set_option maxHeartbeats 4000000 in
set_option maxRecDepth 100000 in
theorem c_X5_foldNode (l : Launch) (D : va_G) (cy : Nat → ClassId) {L : List Nat} {K N : Nat → Nat} {F G : Nat → Nat → Nat} (hZ : ZL L K N F G) (h0 : Nat) (p0 : Int64) (p1 : Int32) (p2 : Int32) (k_h0 : K h0 = 5) (I A : zH) {r : Int64} (h : f_X5_foldNode F G h0 p0 p1 p2 I A = some r) : ZMl l yX5_foldNode cX5_foldNode 8 (some .long) { frames := 4, cells := 0, slots := 0, locals := 92 } D cy L K N F G [.ref h0, .long p0, .int p1, .int p2] I A r I A := by
  refine ZMl.of (nL := 8) hZ rfl rfl (by decide) (Nat.le_of_ble_eq_true rfl) (fun p e s m args below meth c C hr => ?_)
  unfold f_X5_foldNode at h
  refine zr_lv (lv' := [(0, .ref h0), (1, .long p0), (3, .int p1), (4, .int p2)]) C [0, 1, 2, 3] rfl ?_
  refine zr_lload_n C 1 rfl rfl dX5_foldNode_0 ?_
  refine zr_lstore (lv' := [(5, .long p0), (0, .ref h0), (1, .long p0), (3, .int p1), (4, .int p2)]) C (by decide) rfl dX5_foldNode_1 ?_
  refine zr_iconst (v := 0) C (by decide) dX5_foldNode_3 ?_
  refine zr_istore (lv' := [(7, .int 0), (5, .long p0), (0, .ref h0), (1, .long p0), (3, .int p1), (4, .int p2)]) C (by decide) rfl dX5_foldNode_4 ?_
  obtain ⟨j1, i2, h9, h⟩ := zb2_e h
  refine zr_lv (lv' := [(0, .ref h0), (3, .int p1), (4, .int p2), (5, .long p0), (7, .int 0)]) C [2, 4, 5, 1, 0] rfl ?_
  refine w_X5_foldNode_6 l D cy hZ C (Nat.le_of_ble_eq_true rfl) (Nat.le_of_ble_eq_true rfl) ⟨Nat.le_of_ble_eq_true rfl, Nat.le_of_ble_eq_true rfl⟩ h0 p1 p2 k_h0 I A 2000 (p0, 0) (j1, i2) h9 ?_
  refine zr_lload C 3 rfl dX5_foldNode_34 ?_
  refine zr_aload_n C 0 rfl rfl dX5_foldNode_36 ?_
  refine zr_iload_n C 1 rfl rfl dX5_foldNode_37 ?_
  refine zr_iload C 2 rfl dX5_foldNode_38 ?_
  obtain ⟨r3, h4, h⟩ := zb_e h
  refine zr_callVi (n := 2) (As := [.int p1, .int p2]) C (c_X5_substitute l D cy hZ h0 p1 p2 k_h0 I A h4) wd_634 wd_635 wd_636 wd_1 wd_637 (by decide +kernel) ⟨(Nat.le_of_ble_eq_true rfl), (Nat.le_of_ble_eq_true rfl)⟩ rfl rfl ⟨Nat.le_of_ble_eq_true rfl, Nat.le_of_ble_eq_true rfl⟩ k_h0 (by decide) rfl rfl rfl (Nat.le_of_ble_eq_true rfl) dX5_foldNode_40 ?_
  obtain ⟨r6, h7, h⟩ := zb_e h
  refine zr_callSl (n := 2) (As := [.long j1, .int r3]) C (c_X5_fold l D cy hZ j1 r3 I A h7) wd_599 wd_600 wd_1 wd_601 (by decide +kernel) ⟨(Nat.le_of_ble_eq_true rfl), (Nat.le_of_ble_eq_true rfl)⟩ rfl rfl ⟨Nat.le_of_ble_eq_true rfl, Nat.le_of_ble_eq_true rfl⟩ rfl rfl (Nat.le_of_ble_eq_true rfl) dX5_foldNode_43 ?_
  obtain rfl := zso h
  exact zr_lret C hr dX5_foldNode_46

def g_X5_foldProject_6 (F G : Nat → Nat → Nat) (v0 : Nat) (v3 : Int32) (v4 : Int64) (v6 : Int32) (I : zH) (A : zH) : Option ((Int64 × Int32) ⊕ (Int64 × Int32)) :=
  if 7 ≤ v6 then (
    some (.inr (v4, v6))
  ) else (
    zb (f_X5_ofProject F G v0 v3 v6 I A) fun r2 =>
    zb (f_X5_fold F G v4 r2 I A) fun r5 =>
    some (.inl (r5, v6 + 1))
  )
def g_X5_foldProject_48 (F G : Nat → Nat → Nat) (v0 : Nat) (v3 : Int32) (v4 : Int64) (v6 : Int32) (I : zH) (A : zH) : Option ((Int64 × Int32) ⊕ (Int64 × Int32)) :=
  if 10 ≤ v6 then (
    some (.inr (v4, v6))
  ) else (
    zck (¬ (v3 < 0 ∨ 5 ≤ v3.toNatClampNeg)) <|
    zb (f_X3_hasNode F G (G (F v0 5) v3.toNatClampNeg) v6 I A) fun r3 =>
    if r3 = 0 then (
      some (.inl (v4, v6 + 1))
    ) else (
      zb (f_X5_foldNode F G v0 v4 v3 v6 I A) fun r7 =>
      some (.inl (r7, v6 + 1))
    )
  )
def f_X5_foldProject (F G : Nat → Nat → Nat) (h0 : Nat) (p0 : Int64) (p1 : Int32) (I A : zH) : Option (Int64 × zH) :=
  zb2 (zIt (fun x => g_X5_foldProject_6 F G h0 p1 x.1 x.2 I A) 2000 (p0, 0)) fun j1 i2 =>
  zb2 (f_X5_remedy F G h0 p1 I A) fun r3 A4 =>
  zb (f_X5_fold F G j1 r3 I A4) fun r7 =>
  zb2 (zIt (fun x => g_X5_foldProject_48 F G h0 p1 x.1 x.2 I A4) 2000 (r7, 0)) fun j10 i11 =>
  some (j10, A4)
set_option maxHeartbeats 4000000 in
set_option maxRecDepth 100000 in
theorem wb_X5_foldProject_6 (l : Launch) (D : va_G) (cy : Nat → ClassId) {L : List Nat} {K N : Nat → Nat} {F G : Nat → Nat → Nat} (hZ : ZL L K N F G) {p : Program} {e : Env} {R : Room} {s : State} {m : MethodId} {args : Array Value} {below : List Frame} {meth : Method} {c : Code} {cells slots : Nat} {Q : State → Prop} (C : ZC p s m args meth c cX5_foldProject yX5_foldProject.cls 7 D cy L K N F G) (hRf : 4 ≤ R.frames) (hRl : 97 ≤ R.locals) (hRc : cells ≤ R.cells ∧ slots ≤ R.slots)  (v0 : Nat) (v3 : Int32) (k0 : K v0 = 5) (I : zH) (A : zH) (v4 : Int64) (v6 : Int32) (o : (Int64 × Int32) ⊕ (Int64 × Int32)) (h : g_X5_foldProject_6 F G v0 v3 v4 v6 I A = some o)
    (hg : ∀ y : Int64 × Int32, o = .inl y → ZW p l e R s m args below meth c 7 D cy L K N F G cells slots Q I A 6 [(0, .ref v0), (3, .int v3), (4, .long y.1), (6, .int y.2)] [])
    (hx : ∀ y : Int64 × Int32, o = .inr y → ZW p l e R s m args below meth c 7 D cy L K N F G cells slots Q I A 33 [(0, .ref v0), (3, .int v3), (4, .long y.1), (6, .int y.2)] []) : ZW p l e R s m args below meth c 7 D cy L K N F G cells slots Q I A 6 [(0, .ref v0), (3, .int v3), (4, .long v4), (6, .int v6)] [] := by
  unfold g_X5_foldProject_6 at h
  refine zr_iload C 3 rfl dX5_foldProject_6 ?_
  refine zr_bipush (v := 7) C (by decide) dX5_foldProject_8 ?_
  refine zr_icmp_ge (tgt := 33) C (by decide) dX5_foldProject_10 (fun hc1 => ?_) (fun hc1 => ?_)
  · have h := zif_t hc1 h
    obtain rfl := zso h
    refine zr_lv (lv' := [(0, .ref v0), (3, .int v3), (4, .long v4), (6, .int v6)]) C [0, 1, 2, 3] rfl ?_
    exact hx _ rfl
  · have h := zif_f hc1 h
    refine zr_lload C 2 rfl dX5_foldProject_13 ?_
    refine zr_aload_n C 0 rfl rfl dX5_foldProject_15 ?_
    refine zr_iload_n C 1 rfl rfl dX5_foldProject_16 ?_
    refine zr_iload C 3 rfl dX5_foldProject_17 ?_
    obtain ⟨r2, h3, h⟩ := zb_e h
    refine zr_callVi (n := 2) (As := [.int v3, .int v6]) C (c_X5_ofProject l D cy hZ v0 v3 v6 k0 I A h3) wd_622 wd_500 wd_501 wd_1 wd_502 (by decide +kernel) ⟨(Nat.le_trans (Nat.le_of_ble_eq_true rfl) hRf), (Nat.le_trans (Nat.le_of_ble_eq_true rfl) hRl)⟩ rfl rfl hRc k0 (by decide) rfl rfl rfl (Nat.le_of_ble_eq_true rfl) dX5_foldProject_19 ?_
    obtain ⟨r5, h6, h⟩ := zb_e h
    refine zr_callSl (n := 2) (As := [.long v4, .int r2]) C (c_X5_fold l D cy hZ v4 r2 I A h6) wd_599 wd_600 wd_1 wd_601 (by decide +kernel) ⟨(Nat.le_trans (Nat.le_of_ble_eq_true rfl) hRf), (Nat.le_trans (Nat.le_of_ble_eq_true rfl) hRl)⟩ rfl rfl hRc rfl rfl (Nat.le_of_ble_eq_true rfl) dX5_foldProject_22 ?_
    refine zr_lstore (lv' := [(4, .long r5), (0, .ref v0), (3, .int v3), (6, .int v6)]) C (by decide) rfl dX5_foldProject_25 ?_
    refine zr_iinc (v := v6 + 1) (lv' := [(6, .int (v6 + 1)), (4, .long r5), (0, .ref v0), (3, .int v3)]) C 3 rfl rfl (by decide) rfl dX5_foldProject_27 ?_
    refine zr_goto (tgt := 6) C (by decide) dX5_foldProject_30 ?_
    obtain rfl := zso h
    refine zr_lv (lv' := [(0, .ref v0), (3, .int v3), (4, .long r5), (6, .int (v6 + 1))]) C [2, 3, 1, 0] rfl ?_
    exact hg _ rfl
set_option maxHeartbeats 4000000 in
set_option maxRecDepth 100000 in
theorem w_X5_foldProject_6 (l : Launch) (D : va_G) (cy : Nat → ClassId) {L : List Nat} {K N : Nat → Nat} {F G : Nat → Nat → Nat} (hZ : ZL L K N F G) {p : Program} {e : Env} {R : Room} {s : State} {m : MethodId} {args : Array Value} {below : List Frame} {meth : Method} {c : Code} {cells slots : Nat} {Q : State → Prop} (C : ZC p s m args meth c cX5_foldProject yX5_foldProject.cls 7 D cy L K N F G) (hRf : 4 ≤ R.frames) (hRl : 97 ≤ R.locals) (hRc : cells ≤ R.cells ∧ slots ≤ R.slots)  (v0 : Nat) (v3 : Int32) (k0 : K v0 = 5) (I : zH) (A : zH) (n : Nat) (x : Int64 × Int32) (o : Int64 × Int32) (h : zIt (fun x => g_X5_foldProject_6 F G v0 v3 x.1 x.2 I A) n x = some o)
    (hx : ZW p l e R s m args below meth c 7 D cy L K N F G cells slots Q I A 33 [(0, .ref v0), (3, .int v3), (4, .long o.1), (6, .int o.2)] []) : ZW p l e R s m args below meth c 7 D cy L K N F G cells slots Q I A 6 [(0, .ref v0), (3, .int v3), (4, .long x.1), (6, .int x.2)] [] := by
  induction n generalizing x with
  | zero => cases h
  | succ n ih =>
    unfold zIt at h
    cases hb : g_X5_foldProject_6 F G v0 v3 x.1 x.2 I A with
    | none => rw [hb] at h; cases h
    | some q =>
      rw [hb] at h
      refine wb_X5_foldProject_6 l D cy hZ C hRf hRl hRc v0 v3 k0 I A x.1 x.2 q hb (fun y hy => ?_) (fun y hy => ?_)
      · subst hy; exact ih y h
      · subst hy; cases h; exact hx
set_option maxHeartbeats 4000000 in
set_option maxRecDepth 100000 in
theorem wb_X5_foldProject_48 (l : Launch) (D : va_G) (cy : Nat → ClassId) {L : List Nat} {K N : Nat → Nat} {F G : Nat → Nat → Nat} (hZ : ZL L K N F G) {p : Program} {e : Env} {R : Room} {s : State} {m : MethodId} {args : Array Value} {below : List Frame} {meth : Method} {c : Code} {cells slots : Nat} {Q : State → Prop} (C : ZC p s m args meth c cX5_foldProject yX5_foldProject.cls 7 D cy L K N F G) (hRf : 5 ≤ R.frames) (hRl : 119 ≤ R.locals) (hRc : cells ≤ R.cells ∧ slots ≤ R.slots)  (v0 : Nat) (v3 : Int32) (k0 : K v0 = 5) (I : zH) (A : zH) (v4 : Int64) (v6 : Int32) (o : (Int64 × Int32) ⊕ (Int64 × Int32)) (h : g_X5_foldProject_48 F G v0 v3 v4 v6 I A = some o)
    (hg : ∀ y : Int64 × Int32, o = .inl y → ZW p l e R s m args below meth c 7 D cy L K N F G cells slots Q I A 48 [(0, .ref v0), (3, .int v3), (4, .long y.1), (6, .int y.2)] [])
    (hx : ∀ y : Int64 × Int32, o = .inr y → ZW p l e R s m args below meth c 7 D cy L K N F G cells slots Q I A 86 [(0, .ref v0), (3, .int v3), (4, .long y.1), (6, .int y.2)] []) : ZW p l e R s m args below meth c 7 D cy L K N F G cells slots Q I A 48 [(0, .ref v0), (3, .int v3), (4, .long v4), (6, .int v6)] [] := by
  unfold g_X5_foldProject_48 at h
  refine zr_iload C 3 rfl dX5_foldProject_48 ?_
  refine zr_bipush (v := 10) C (by decide) dX5_foldProject_50 ?_
  refine zr_icmp_ge (tgt := 86) C (by decide) dX5_foldProject_52 (fun hc1 => ?_) (fun hc1 => ?_)
  · have h := zif_t hc1 h
    obtain rfl := zso h
    refine zr_lv (lv' := [(0, .ref v0), (3, .int v3), (4, .long v4), (6, .int v6)]) C [0, 1, 2, 3] rfl ?_
    exact hx _ rfl
  · have h := zif_f hc1 h
    refine zr_aload_n C 0 rfl rfl dX5_foldProject_55 ?_
    refine zr_get (ci := 5) (k := 5) (v := .ref (F v0 5)) C k0 (by decide) rfl zinX5 (by decide) wd_163 rfl dX5_foldProject_56 ?_
    refine zr_iload_n C 1 rfl rfl dX5_foldProject_59 ?_
    obtain ⟨hc2, h⟩ := zck_e h
    refine zr_ald9 C (zt55 hZ k0).1 (zt55 hZ k0).2 hc2 dX5_foldProject_60 ?_
    refine zr_iload C 3 rfl dX5_foldProject_61 ?_
    obtain ⟨r3, h4, h⟩ := zb_e h
    refine zr_callVi (n := 1) (As := [.int v6]) C (c_X3_hasNode l D cy hZ (G (F v0 5) v3.toNatClampNeg) v6 (zt9 hZ (zt55 hZ k0).1 (z_ix (zt55 hZ k0).2 hc2)) I A h4) wd_473 wd_474 wd_475 wd_6 wd_476 (by decide +kernel) ⟨(Nat.le_trans (Nat.le_of_ble_eq_true rfl) hRf), (Nat.le_trans (Nat.le_of_ble_eq_true rfl) hRl)⟩ rfl rfl hRc (zt9 hZ (zt55 hZ k0).1 (z_ix (zt55 hZ k0).2 hc2)) (by decide) rfl rfl rfl (Nat.le_of_ble_eq_true rfl) dX5_foldProject_63 ?_
    refine zr_if_eq (tgt := 80) C (by decide) dX5_foldProject_66 (fun hc6 => ?_) (fun hc6 => ?_)
    · have h := zif_t hc6 h
      refine zr_iinc (v := v6 + 1) (lv' := [(6, .int (v6 + 1)), (0, .ref v0), (3, .int v3), (4, .long v4)]) C 3 rfl rfl (by decide) rfl dX5_foldProject_80 ?_
      refine zr_goto (tgt := 48) C (by decide) dX5_foldProject_83 ?_
      obtain rfl := zso h
      refine zr_lv (lv' := [(0, .ref v0), (3, .int v3), (4, .long v4), (6, .int (v6 + 1))]) C [1, 2, 3, 0] rfl ?_
      exact hg _ rfl
    · have h := zif_f hc6 h
      refine zr_aload_n C 0 rfl rfl dX5_foldProject_69 ?_
      refine zr_lload C 2 rfl dX5_foldProject_70 ?_
      refine zr_iload_n C 1 rfl rfl dX5_foldProject_72 ?_
      refine zr_iload C 3 rfl dX5_foldProject_73 ?_
      obtain ⟨r7, h8, h⟩ := zb_e h
      refine zr_callVl (n := 3) (As := [.long v4, .int v3, .int v6]) C (c_X5_foldNode l D cy hZ v0 v4 v3 v6 k0 I A h8) wd_624 wd_626 wp_26 wd_1 wd_627 (by decide +kernel) ⟨(Nat.le_trans (Nat.le_of_ble_eq_true rfl) hRf), (Nat.le_trans (Nat.le_of_ble_eq_true rfl) hRl)⟩ rfl rfl hRc k0 (by decide) rfl rfl rfl (Nat.le_of_ble_eq_true rfl) dX5_foldProject_75 ?_
      refine zr_lstore (lv' := [(4, .long r7), (0, .ref v0), (3, .int v3), (6, .int v6)]) C (by decide) rfl dX5_foldProject_78 ?_
      refine zr_iinc (v := v6 + 1) (lv' := [(6, .int (v6 + 1)), (4, .long r7), (0, .ref v0), (3, .int v3)]) C 3 rfl rfl (by decide) rfl dX5_foldProject_80 ?_
      refine zr_goto (tgt := 48) C (by decide) dX5_foldProject_83 ?_
      obtain rfl := zso h
      refine zr_lv (lv' := [(0, .ref v0), (3, .int v3), (4, .long r7), (6, .int (v6 + 1))]) C [2, 3, 1, 0] rfl ?_
      exact hg _ rfl
set_option maxHeartbeats 4000000 in
set_option maxRecDepth 100000 in
theorem w_X5_foldProject_48 (l : Launch) (D : va_G) (cy : Nat → ClassId) {L : List Nat} {K N : Nat → Nat} {F G : Nat → Nat → Nat} (hZ : ZL L K N F G) {p : Program} {e : Env} {R : Room} {s : State} {m : MethodId} {args : Array Value} {below : List Frame} {meth : Method} {c : Code} {cells slots : Nat} {Q : State → Prop} (C : ZC p s m args meth c cX5_foldProject yX5_foldProject.cls 7 D cy L K N F G) (hRf : 5 ≤ R.frames) (hRl : 119 ≤ R.locals) (hRc : cells ≤ R.cells ∧ slots ≤ R.slots)  (v0 : Nat) (v3 : Int32) (k0 : K v0 = 5) (I : zH) (A : zH) (n : Nat) (x : Int64 × Int32) (o : Int64 × Int32) (h : zIt (fun x => g_X5_foldProject_48 F G v0 v3 x.1 x.2 I A) n x = some o)
    (hx : ZW p l e R s m args below meth c 7 D cy L K N F G cells slots Q I A 86 [(0, .ref v0), (3, .int v3), (4, .long o.1), (6, .int o.2)] []) : ZW p l e R s m args below meth c 7 D cy L K N F G cells slots Q I A 48 [(0, .ref v0), (3, .int v3), (4, .long x.1), (6, .int x.2)] [] := by
  induction n generalizing x with
  | zero => cases h
  | succ n ih =>
    unfold zIt at h
    cases hb : g_X5_foldProject_48 F G v0 v3 x.1 x.2 I A with
    | none => rw [hb] at h; cases h
    | some q =>
      rw [hb] at h
      refine wb_X5_foldProject_48 l D cy hZ C hRf hRl hRc v0 v3 k0 I A x.1 x.2 q hb (fun y hy => ?_) (fun y hy => ?_)
      · subst hy; exact ih y h
      · subst hy; cases h; exact hx
set_option maxHeartbeats 4000000 in
set_option maxRecDepth 100000 in
theorem c_X5_foldProject (l : Launch) (D : va_G) (cy : Nat → ClassId) {L : List Nat} {K N : Nat → Nat} {F G : Nat → Nat → Nat} (hZ : ZL L K N F G) (h0 : Nat) (p0 : Int64) (p1 : Int32) (k_h0 : K h0 = 5) (I A : zH) {r : Int64} {B' : zH} (h : f_X5_foldProject F G h0 p0 p1 I A = some (r, B')) : ZMl l yX5_foldProject cX5_foldProject 7 (some .long) { frames := 5, cells := 0, slots := 0, locals := 119 } D cy L K N F G [.ref h0, .long p0, .int p1] I A r I B' := by
  refine ZMl.of (nL := 7) hZ rfl rfl (by decide) (Nat.le_of_ble_eq_true rfl) (fun p e s m args below meth c C hr => ?_)
  unfold f_X5_foldProject at h
  refine zr_lv (lv' := [(0, .ref h0), (1, .long p0), (3, .int p1)]) C [0, 1, 2] rfl ?_
  refine zr_lload_n C 1 rfl rfl dX5_foldProject_0 ?_
  refine zr_lstore (lv' := [(4, .long p0), (0, .ref h0), (1, .long p0), (3, .int p1)]) C (by decide) rfl dX5_foldProject_1 ?_
  refine zr_iconst (v := 0) C (by decide) dX5_foldProject_3 ?_
  refine zr_istore (lv' := [(6, .int 0), (4, .long p0), (0, .ref h0), (1, .long p0), (3, .int p1)]) C (by decide) rfl dX5_foldProject_4 ?_
  obtain ⟨j1, i2, h13, h⟩ := zb2_e h
  refine zr_lv (lv' := [(0, .ref h0), (3, .int p1), (4, .long p0), (6, .int 0)]) C [2, 4, 1, 0] rfl ?_
  refine w_X5_foldProject_6 l D cy hZ C (Nat.le_of_ble_eq_true rfl) (Nat.le_of_ble_eq_true rfl) ⟨Nat.le_of_ble_eq_true rfl, Nat.le_of_ble_eq_true rfl⟩ h0 p1 k_h0 I A 2000 (p0, 0) (j1, i2) h13 ?_
  refine zr_lload C 2 rfl dX5_foldProject_33 ?_
  refine zr_aload_n C 0 rfl rfl dX5_foldProject_35 ?_
  refine zr_iload_n C 1 rfl rfl dX5_foldProject_36 ?_
  obtain ⟨r3, A4, h5, h⟩ := zb2_e h
  refine zr_callVi (n := 1) (As := [.int p1]) C (c_X5_remedy l D cy hZ h0 p1 k_h0 I A h5) wd_623 wd_571 wd_572 wd_1 wd_573 (by decide +kernel) ⟨(Nat.le_of_ble_eq_true rfl), (Nat.le_of_ble_eq_true rfl)⟩ rfl rfl ⟨Nat.le_of_ble_eq_true rfl, Nat.le_of_ble_eq_true rfl⟩ k_h0 (by decide) rfl rfl rfl (Nat.le_of_ble_eq_true rfl) dX5_foldProject_37 ?_
  obtain ⟨r7, h8, h⟩ := zb_e h
  refine zr_callSl (n := 2) (As := [.long j1, .int r3]) C (c_X5_fold l D cy hZ j1 r3 I A4 h8) wd_599 wd_600 wd_1 wd_601 (by decide +kernel) ⟨(Nat.le_of_ble_eq_true rfl), (Nat.le_of_ble_eq_true rfl)⟩ rfl rfl ⟨Nat.le_of_ble_eq_true rfl, Nat.le_of_ble_eq_true rfl⟩ rfl rfl (Nat.le_of_ble_eq_true rfl) dX5_foldProject_40 ?_
  refine zr_lstore (lv' := [(4, .long r7), (0, .ref h0), (3, .int p1), (6, .int i2)]) C (by decide) rfl dX5_foldProject_43 ?_
  refine zr_iconst (v := 0) C (by decide) dX5_foldProject_45 ?_
  refine zr_istore (lv' := [(6, .int 0), (4, .long r7), (0, .ref h0), (3, .int p1)]) C (by decide) rfl dX5_foldProject_46 ?_
  obtain ⟨j10, i11, h12, h⟩ := zb2_e h
  refine zr_lv (lv' := [(0, .ref h0), (3, .int p1), (4, .long r7), (6, .int 0)]) C [2, 3, 1, 0] rfl ?_
  refine w_X5_foldProject_48 l D cy hZ C (Nat.le_of_ble_eq_true rfl) (Nat.le_of_ble_eq_true rfl) ⟨Nat.le_of_ble_eq_true rfl, Nat.le_of_ble_eq_true rfl⟩ h0 p1 k_h0 I A4 2000 (r7, 0) (j10, i11) h12 ?_
  refine zr_lload C 2 rfl dX5_foldProject_86 ?_
  cases zso h
  exact zr_lret C hr dX5_foldProject_88

def f_X5_needNearness (F G : Nat → Nat → Nat) (p0 : Int32) (I A : zH) : Option (Unit) :=
  if p0 < 1 then (
    none
  ) else (
    if p0 ≤ 100 then (
      some ()
    ) else (
      none
    )
  )
set_option maxHeartbeats 4000000 in
set_option maxRecDepth 100000 in
theorem c_X5_needNearness (l : Launch) (D : va_G) (cy : Nat → ClassId) {L : List Nat} {K N : Nat → Nat} {F G : Nat → Nat → Nat} (hZ : ZL L K N F G) (p0 : Int32)  (I A : zH) (h : f_X5_needNearness F G p0 I A = some ()) : ZMv l yX5_needNearness cX5_needNearness 1 none { frames := 0, cells := 0, slots := 0, locals := 0 } D cy L K N F G [.int p0] I A I A := by
  refine ZMv.of (nL := 1) hZ rfl rfl (by decide) (Nat.le_of_ble_eq_true rfl) (fun p e s m args below meth c C hr => ?_)
  unfold f_X5_needNearness at h
  refine zr_lv (lv' := [(0, .int p0)]) C [0] rfl ?_
  refine zr_iload_n C 0 rfl rfl dX5_needNearness_0 ?_
  refine zr_iconst (v := 1) C (by decide) dX5_needNearness_1 ?_
  refine zr_icmp_lt (tgt := 11) C (by decide) dX5_needNearness_2 (fun hc1 => ?_) (fun hc1 => ?_)
  · have h := zif_t hc1 h
    exact zno h
  · have h := zif_f hc1 h
    refine zr_iload_n C 0 rfl rfl dX5_needNearness_5 ?_
    refine zr_bipush (v := 100) C (by decide) dX5_needNearness_6 ?_
    refine zr_icmp_le (tgt := 22) C (by decide) dX5_needNearness_8 (fun hc2 => ?_) (fun hc2 => ?_)
    · have h := zif_t hc2 h
      exact zr_vret C hr dX5_needNearness_22
    · have h := zif_f hc2 h
      exact zno h

def g_X5_bind_54 (F G : Nat → Nat → Nat) (v0 : Nat) (v1 : Nat) (v2 : Int32) (v3 : Int32) (v4 : Int32) (v5 : Int32) (v7 : Int32) (v8 : Int32) (I : zH) (A : zH) : Option ((Int32 × Int32) ⊕ (Int32 × Int32)) :=
  if v5 ≤ v8 then (
    some (.inr (v7, v8))
  ) else (
    zck (¬ (v5 < 0 ∨ 16 ≤ v5.toNatClampNeg)) <|
    zck (¬ (v8 < 0 ∨ 16 ≤ v8.toNatClampNeg)) <|
    if (A (G (F v0 2) v5.toNatClampNeg) v8.toNatClampNeg) < v2 then (
      some (.inl (v7, v8 + 1))
    ) else (
      zb (f_X0_licencesOf F G v1 v8 I A) fun r5 =>
      some (.inl (v7 ||| r5, v8 + 1))
    )
  )
def g_X5_bind_3 (F G : Nat → Nat → Nat) (v0 : Nat) (v1 : Nat) (v2 : Int32) (v3 : Int32) (v4 : Int32) (v5 : Int32) (A : zH) (I : zH) : Option ((Int32 × zH) ⊕ (Int32 × zH)) :=
  if (I v0 8) ≤ v5 then (
    some (.inr (v5, A))
  ) else (
    if v5 = v3 then (
      if v4 = (-1) then (
        zb2 (zIt (fun x => g_X5_bind_54 F G v0 v1 v2 v3 v4 v5 x.1 x.2 I A) 2000 (0, 0)) fun i27 i28 =>
        zck (¬ (v5 < 0 ∨ 16 ≤ v5.toNatClampNeg)) <|
        zb (f_X0_put F G v1 v5 (i27 &&& ((I (G (F v0 1) v5.toNatClampNeg) 2) ^^^ (-1))) (F v0 4) I A) fun A30 =>
        some (.inl (v5 + 1, A30))
      ) else (
        zb2 (zIt (fun x => g_X5_bind_54 F G v0 v1 v2 v3 v4 v5 x.1 x.2 I A) 2000 ((1 : Int32) <<< (v4 &&& 31), 0)) fun i20 i21 =>
        zck (¬ (v5 < 0 ∨ 16 ≤ v5.toNatClampNeg)) <|
        zb (f_X0_put F G v1 v5 (i20 &&& ((I (G (F v0 1) v5.toNatClampNeg) 2) ^^^ (-1))) (F v0 4) I A) fun A23 =>
        some (.inl (v5 + 1, A23))
      )
    ) else (
      zck (¬ (v5 < 0 ∨ 16 ≤ v5.toNatClampNeg)) <|
      if (I (G (F v0 1) v5.toNatClampNeg) 1) = (-1) then (
        zb2 (zIt (fun x => g_X5_bind_54 F G v0 v1 v2 v3 v4 v5 x.1 x.2 I A) 2000 (0, 0)) fun i12 i13 =>
        zck (¬ (v5 < 0 ∨ 16 ≤ v5.toNatClampNeg)) <|
        zb (f_X0_put F G v1 v5 (i12 &&& ((I (G (F v0 1) v5.toNatClampNeg) 2) ^^^ (-1))) (F v0 4) I A) fun A15 =>
        some (.inl (v5 + 1, A15))
      ) else (
        zb2 (zIt (fun x => g_X5_bind_54 F G v0 v1 v2 v3 v4 v5 x.1 x.2 I A) 2000 ((1 : Int32) <<< ((I (G (F v0 1) v5.toNatClampNeg) 1) &&& 31), 0)) fun i5 i6 =>
        zck (¬ (v5 < 0 ∨ 16 ≤ v5.toNatClampNeg)) <|
        zb (f_X0_put F G v1 v5 (i5 &&& ((I (G (F v0 1) v5.toNatClampNeg) 2) ^^^ (-1))) (F v0 4) I A) fun A8 =>
        some (.inl (v5 + 1, A8))
      )
    )
  )
def f_X5_bind (F G : Nat → Nat → Nat) (h0 : Nat) (r0 : Nat) (p1 : Int32) (p2 : Int32) (p3 : Int32) (I A : zH) : Option (zH) :=
  zb2 (zIt (fun x => g_X5_bind_3 F G h0 r0 p1 p2 p3 x.1 x.2 I ) 2000 (0, A)) fun i1 A2 =>
  some A2
set_option maxHeartbeats 4000000 in
set_option maxRecDepth 100000 in
theorem wb_X5_bind_54 (l : Launch) (D : va_G) (cy : Nat → ClassId) {L : List Nat} {K N : Nat → Nat} {F G : Nat → Nat → Nat} (hZ : ZL L K N F G) {p : Program} {e : Env} {R : Room} {s : State} {m : MethodId} {args : Array Value} {below : List Frame} {meth : Method} {c : Code} {cells slots : Nat} {Q : State → Prop} (C : ZC p s m args meth c cX5_bind yX5_bind.cls 9 D cy L K N F G) (hRf : 1 ≤ R.frames) (hRl : 21 ≤ R.locals) (hRc : cells ≤ R.cells ∧ slots ≤ R.slots)  (v0 : Nat) (v1 : Nat) (v2 : Int32) (v3 : Int32) (v4 : Int32) (v5 : Int32) (k0 : K v0 = 5) (k1 : K v1 = 0) (I : zH) (A : zH) (v7 : Int32) (v8 : Int32) (o : (Int32 × Int32) ⊕ (Int32 × Int32)) (h : g_X5_bind_54 F G v0 v1 v2 v3 v4 v5 v7 v8 I A = some o)
    (hg : ∀ y : Int32 × Int32, o = .inl y → ZW p l e R s m args below meth c 9 D cy L K N F G cells slots Q I A 54 [(0, .ref v0), (1, .ref v1), (2, .int v2), (3, .int v3), (4, .int v4), (5, .int v5), (7, .int y.1), (8, .int y.2)] [])
    (hx : ∀ y : Int32 × Int32, o = .inr y → ZW p l e R s m args below meth c 9 D cy L K N F G cells slots Q I A 92 [(0, .ref v0), (1, .ref v1), (2, .int v2), (3, .int v3), (4, .int v4), (5, .int v5), (7, .int y.1), (8, .int y.2)] []) : ZW p l e R s m args below meth c 9 D cy L K N F G cells slots Q I A 54 [(0, .ref v0), (1, .ref v1), (2, .int v2), (3, .int v3), (4, .int v4), (5, .int v5), (7, .int v7), (8, .int v8)] [] := by
  unfold g_X5_bind_54 at h
  refine zr_iload C 7 rfl dX5_bind_54 ?_
  refine zr_iload C 5 rfl dX5_bind_56 ?_
  refine zr_icmp_ge (tgt := 92) C (by decide) dX5_bind_58 (fun hc1 => ?_) (fun hc1 => ?_)
  · have h := zif_t hc1 h
    obtain rfl := zso h
    refine zr_lv (lv' := [(0, .ref v0), (1, .ref v1), (2, .int v2), (3, .int v3), (4, .int v4), (5, .int v5), (7, .int v7), (8, .int v8)]) C [0, 1, 2, 3, 4, 5, 6, 7] rfl ?_
    exact hx _ rfl
  · have h := zif_f hc1 h
    refine zr_aload_n C 0 rfl rfl dX5_bind_61 ?_
    refine zr_get (ci := 5) (k := 2) (v := .ref (F v0 2)) C k0 (by decide) rfl zinX5 (by decide) wd_160 rfl dX5_bind_62 ?_
    refine zr_iload C 5 rfl dX5_bind_65 ?_
    obtain ⟨hc2, h⟩ := zck_e h
    refine zr_ald10 C (zt52 hZ k0).1 (zt52 hZ k0).2 hc2 dX5_bind_67 ?_
    refine zr_iload C 7 rfl dX5_bind_68 ?_
    obtain ⟨hc3, h⟩ := zck_e h
    refine zr_iald C (zt10 hZ (zt52 hZ k0).1 (z_ix (zt52 hZ k0).2 hc2)).1 (zt10 hZ (zt52 hZ k0).1 (z_ix (zt52 hZ k0).2 hc2)).2 hc3 dX5_bind_70 ?_
    refine zr_iload_n C 2 rfl rfl dX5_bind_71 ?_
    refine zr_icmp_lt (tgt := 86) C (by decide) dX5_bind_72 (fun hc4 => ?_) (fun hc4 => ?_)
    · have h := zif_t hc4 h
      refine zr_iinc (v := v8 + 1) (lv' := [(8, .int (v8 + 1)), (0, .ref v0), (1, .ref v1), (2, .int v2), (3, .int v3), (4, .int v4), (5, .int v5), (7, .int v7)]) C 7 rfl rfl (by decide) rfl dX5_bind_86 ?_
      refine zr_goto (tgt := 54) C (by decide) dX5_bind_89 ?_
      obtain rfl := zso h
      refine zr_lv (lv' := [(0, .ref v0), (1, .ref v1), (2, .int v2), (3, .int v3), (4, .int v4), (5, .int v5), (7, .int v7), (8, .int (v8 + 1))]) C [1, 2, 3, 4, 5, 6, 7, 0] rfl ?_
      exact hg _ rfl
    · have h := zif_f hc4 h
      refine zr_iload C 6 rfl dX5_bind_75 ?_
      refine zr_aload_n C 1 rfl rfl dX5_bind_77 ?_
      refine zr_iload C 7 rfl dX5_bind_78 ?_
      obtain ⟨r5, h6, h⟩ := zb_e h
      refine zr_callVi (n := 1) (As := [.int v8]) C (c_X0_licencesOf l D cy hZ v1 v8 k1 I A h6) wd_314 wd_315 wd_316 wd_3 wd_317 (by decide +kernel) ⟨(Nat.le_trans (Nat.le_of_ble_eq_true rfl) hRf), (Nat.le_trans (Nat.le_of_ble_eq_true rfl) hRl)⟩ rfl rfl hRc k1 (by decide) rfl rfl rfl (Nat.le_of_ble_eq_true rfl) dX5_bind_80 ?_
      refine zr_ior C dX5_bind_83 ?_
      refine zr_istore (lv' := [(7, .int (v7 ||| r5)), (0, .ref v0), (1, .ref v1), (2, .int v2), (3, .int v3), (4, .int v4), (5, .int v5), (8, .int v8)]) C (by decide) rfl dX5_bind_84 ?_
      refine zr_iinc (v := v8 + 1) (lv' := [(8, .int (v8 + 1)), (7, .int (v7 ||| r5)), (0, .ref v0), (1, .ref v1), (2, .int v2), (3, .int v3), (4, .int v4), (5, .int v5)]) C 7 rfl rfl (by decide) rfl dX5_bind_86 ?_
      refine zr_goto (tgt := 54) C (by decide) dX5_bind_89 ?_
      obtain rfl := zso h
      refine zr_lv (lv' := [(0, .ref v0), (1, .ref v1), (2, .int v2), (3, .int v3), (4, .int v4), (5, .int v5), (7, .int (v7 ||| r5)), (8, .int (v8 + 1))]) C [2, 3, 4, 5, 6, 7, 1, 0] rfl ?_
      exact hg _ rfl
set_option maxHeartbeats 4000000 in
set_option maxRecDepth 100000 in
theorem w_X5_bind_54 (l : Launch) (D : va_G) (cy : Nat → ClassId) {L : List Nat} {K N : Nat → Nat} {F G : Nat → Nat → Nat} (hZ : ZL L K N F G) {p : Program} {e : Env} {R : Room} {s : State} {m : MethodId} {args : Array Value} {below : List Frame} {meth : Method} {c : Code} {cells slots : Nat} {Q : State → Prop} (C : ZC p s m args meth c cX5_bind yX5_bind.cls 9 D cy L K N F G) (hRf : 1 ≤ R.frames) (hRl : 21 ≤ R.locals) (hRc : cells ≤ R.cells ∧ slots ≤ R.slots)  (v0 : Nat) (v1 : Nat) (v2 : Int32) (v3 : Int32) (v4 : Int32) (v5 : Int32) (k0 : K v0 = 5) (k1 : K v1 = 0) (I : zH) (A : zH) (n : Nat) (x : Int32 × Int32) (o : Int32 × Int32) (h : zIt (fun x => g_X5_bind_54 F G v0 v1 v2 v3 v4 v5 x.1 x.2 I A) n x = some o)
    (hx : ZW p l e R s m args below meth c 9 D cy L K N F G cells slots Q I A 92 [(0, .ref v0), (1, .ref v1), (2, .int v2), (3, .int v3), (4, .int v4), (5, .int v5), (7, .int o.1), (8, .int o.2)] []) : ZW p l e R s m args below meth c 9 D cy L K N F G cells slots Q I A 54 [(0, .ref v0), (1, .ref v1), (2, .int v2), (3, .int v3), (4, .int v4), (5, .int v5), (7, .int x.1), (8, .int x.2)] [] := by
  induction n generalizing x with
  | zero => cases h
  | succ n ih =>
    unfold zIt at h
    cases hb : g_X5_bind_54 F G v0 v1 v2 v3 v4 v5 x.1 x.2 I A with
    | none => rw [hb] at h; cases h
    | some q =>
      rw [hb] at h
      refine wb_X5_bind_54 l D cy hZ C hRf hRl hRc v0 v1 v2 v3 v4 v5 k0 k1 I A x.1 x.2 q hb (fun y hy => ?_) (fun y hy => ?_)
      · subst hy; exact ih y h
      · subst hy; cases h; exact hx
set_option maxHeartbeats 4000000 in
set_option maxRecDepth 100000 in
theorem wb_X5_bind_3 (l : Launch) (D : va_G) (cy : Nat → ClassId) {L : List Nat} {K N : Nat → Nat} {F G : Nat → Nat → Nat} (hZ : ZL L K N F G) {p : Program} {e : Env} {R : Room} {s : State} {m : MethodId} {args : Array Value} {below : List Frame} {meth : Method} {c : Code} {cells slots : Nat} {Q : State → Prop} (C : ZC p s m args meth c cX5_bind yX5_bind.cls 9 D cy L K N F G) (hRf : 2 ≤ R.frames) (hRl : 47 ≤ R.locals) (hRc : cells ≤ R.cells ∧ slots ≤ R.slots)  (v0 : Nat) (v1 : Nat) (v2 : Int32) (v3 : Int32) (v4 : Int32) (k0 : K v0 = 5) (k1 : K v1 = 0) (I : zH) (v5 : Int32) (A : zH) (o : (Int32 × zH) ⊕ (Int32 × zH)) (h : g_X5_bind_3 F G v0 v1 v2 v3 v4 v5 A I = some o)
    (hg : ∀ y : Int32 × zH, o = .inl y → ZW p l e R s m args below meth c 9 D cy L K N F G cells slots Q I y.2 3 [(0, .ref v0), (1, .ref v1), (2, .int v2), (3, .int v3), (4, .int v4), (5, .int y.1)] [])
    (hx : ∀ y : Int32 × zH, o = .inr y → ZW p l e R s m args below meth c 9 D cy L K N F G cells slots Q I y.2 123 [(0, .ref v0), (1, .ref v1), (2, .int v2), (3, .int v3), (4, .int v4), (5, .int y.1)] []) : ZW p l e R s m args below meth c 9 D cy L K N F G cells slots Q I A 3 [(0, .ref v0), (1, .ref v1), (2, .int v2), (3, .int v3), (4, .int v4), (5, .int v5)] [] := by
  unfold g_X5_bind_3 at h
  refine zr_iload C 5 rfl dX5_bind_3 ?_
  refine zr_aload_n C 0 rfl rfl dX5_bind_5 ?_
  refine zr_get (ci := 5) (k := 8) (v := .int (I v0 8)) C k0 (by decide) rfl zinX5 (by decide) wd_166 rfl dX5_bind_6 ?_
  refine zr_icmp_ge (tgt := 123) C (by decide) dX5_bind_9 (fun hc1 => ?_) (fun hc1 => ?_)
  · have h := zif_t hc1 h
    obtain rfl := zso h
    refine zr_lv (lv' := [(0, .ref v0), (1, .ref v1), (2, .int v2), (3, .int v3), (4, .int v4), (5, .int v5)]) C [0, 1, 2, 3, 4, 5] rfl ?_
    exact hx _ rfl
  · have h := zif_f hc1 h
    refine zr_iload C 5 rfl dX5_bind_12 ?_
    refine zr_iload_n C 3 rfl rfl dX5_bind_14 ?_
    refine zr_icmp_ne (tgt := 23) C (by decide) dX5_bind_15 (fun hc2 => ?_) (fun hc2 => ?_)
    · have h := zif_f hc2 h
      refine zr_aload_n C 0 rfl rfl dX5_bind_23 ?_
      refine zr_get (ci := 5) (k := 1) (v := .ref (F v0 1)) C k0 (by decide) rfl zinX5 (by decide) wd_159 rfl dX5_bind_24 ?_
      refine zr_iload C 5 rfl dX5_bind_27 ?_
      obtain ⟨hc3, h⟩ := zck_e h
      refine zr_ald8 C (zt51 hZ k0).1 (zt51 hZ k0).2 hc3 dX5_bind_29 ?_
      refine zr_get (ci := 2) (k := 1) (v := .int (I (G (F v0 1) v5.toNatClampNeg) 1)) C (zt8 hZ (zt51 hZ k0).1 (z_ix (zt51 hZ k0).2 hc3)) (by decide) rfl zinX2 (by decide) wd_82 rfl dX5_bind_30 ?_
      refine zr_istore (lv' := [(6, .int (I (G (F v0 1) v5.toNatClampNeg) 1)), (0, .ref v0), (1, .ref v1), (2, .int v2), (3, .int v3), (4, .int v4), (5, .int v5)]) C (by decide) rfl dX5_bind_33 ?_
      refine zr_iload C 0 rfl dX5_bind_35 ?_
      refine zr_iconst (v := (-1)) C (by decide) dX5_bind_37 ?_
      refine zr_icmp_ne (tgt := 45) C (by decide) dX5_bind_38 (fun hc4 => ?_) (fun hc4 => ?_)
      · have h := zif_f hc4 h
        refine zr_iconst (v := 1) C (by decide) dX5_bind_45 ?_
        refine zr_iload C 0 rfl dX5_bind_46 ?_
        refine zr_ishl C dX5_bind_48 ?_
        refine zr_istore (lv' := [(7, .int ((1 : Int32) <<< ((I (G (F v0 1) v5.toNatClampNeg) 1) &&& 31))), (6, .int (I (G (F v0 1) v5.toNatClampNeg) 1)), (0, .ref v0), (1, .ref v1), (2, .int v2), (3, .int v3), (4, .int v4), (5, .int v5)]) C (by decide) rfl dX5_bind_49 ?_
        refine zr_iconst (v := 0) C (by decide) dX5_bind_51 ?_
        refine zr_istore (lv' := [(8, .int 0), (7, .int ((1 : Int32) <<< ((I (G (F v0 1) v5.toNatClampNeg) 1) &&& 31))), (6, .int (I (G (F v0 1) v5.toNatClampNeg) 1)), (0, .ref v0), (1, .ref v1), (2, .int v2), (3, .int v3), (4, .int v4), (5, .int v5)]) C (by decide) rfl dX5_bind_52 ?_
        obtain ⟨i5, i6, h11, h⟩ := zb2_e h
        refine zr_lv (lv' := [(0, .ref v0), (1, .ref v1), (2, .int v2), (3, .int v3), (4, .int v4), (5, .int v5), (7, .int ((1 : Int32) <<< ((I (G (F v0 1) v5.toNatClampNeg) 1) &&& 31))), (8, .int 0)]) C [3, 4, 5, 6, 7, 8, 1, 0] rfl ?_
        refine w_X5_bind_54 l D cy hZ C (Nat.le_trans (Nat.le_of_ble_eq_true rfl) hRf) (Nat.le_trans (Nat.le_of_ble_eq_true rfl) hRl) hRc v0 v1 v2 v3 v4 v5 k0 k1 I A 2000 ((1 : Int32) <<< ((I (G (F v0 1) v5.toNatClampNeg) 1) &&& 31), 0) (i5, i6) h11 ?_
        refine zr_aload_n C 1 rfl rfl dX5_bind_92 ?_
        refine zr_iload C 5 rfl dX5_bind_93 ?_
        refine zr_iload C 6 rfl dX5_bind_95 ?_
        refine zr_aload_n C 0 rfl rfl dX5_bind_97 ?_
        refine zr_get (ci := 5) (k := 1) (v := .ref (F v0 1)) C k0 (by decide) rfl zinX5 (by decide) wd_159 rfl dX5_bind_98 ?_
        refine zr_iload C 5 rfl dX5_bind_101 ?_
        obtain ⟨hc7, h⟩ := zck_e h
        refine zr_ald8 C (zt51 hZ k0).1 (zt51 hZ k0).2 hc7 dX5_bind_103 ?_
        refine zr_get (ci := 2) (k := 2) (v := .int (I (G (F v0 1) v5.toNatClampNeg) 2)) C (zt8 hZ (zt51 hZ k0).1 (z_ix (zt51 hZ k0).2 hc7)) (by decide) rfl zinX2 (by decide) wd_84 rfl dX5_bind_104 ?_
        refine zr_iconst (v := (-1)) C (by decide) dX5_bind_107 ?_
        refine zr_ixor C dX5_bind_108 ?_
        refine zr_iand C dX5_bind_109 ?_
        refine zr_aload_n C 0 rfl rfl dX5_bind_110 ?_
        refine zr_get (ci := 5) (k := 4) (v := .ref (F v0 4)) C k0 (by decide) rfl zinX5 (by decide) wd_162 rfl dX5_bind_111 ?_
        obtain ⟨A8, h9, h⟩ := zb_e h
        refine zr_callVv (n := 3) (As := [.int v5, .int (i5 &&& ((I (G (F v0 1) v5.toNatClampNeg) 2) ^^^ (-1))), .ref (F v0 4)]) C (c_X0_put l D cy hZ v1 v5 (i5 &&& ((I (G (F v0 1) v5.toNatClampNeg) 2) ^^^ (-1))) (F v0 4) k1 (zt54 hZ k0).1 (zt54 hZ k0).2 I A h9) wd_318 wd_319 wd_320 wd_3 wd_321 (by decide +kernel) ⟨(Nat.le_trans (Nat.le_of_ble_eq_true rfl) hRf), (Nat.le_trans (Nat.le_of_ble_eq_true rfl) hRl)⟩ rfl rfl hRc k1 (by decide) rfl rfl rfl (Nat.le_of_ble_eq_true rfl) dX5_bind_114 ?_
        refine zr_iinc (v := v5 + 1) (lv' := [(5, .int (v5 + 1)), (0, .ref v0), (1, .ref v1), (2, .int v2), (3, .int v3), (4, .int v4), (7, .int i5), (8, .int i6)]) C 5 rfl rfl (by decide) rfl dX5_bind_117 ?_
        refine zr_goto (tgt := 3) C (by decide) dX5_bind_120 ?_
        obtain rfl := zso h
        refine zr_lv (lv' := [(0, .ref v0), (1, .ref v1), (2, .int v2), (3, .int v3), (4, .int v4), (5, .int (v5 + 1))]) C [1, 2, 3, 4, 5, 0] rfl ?_
        exact hg _ rfl
      · have h := zif_t hc4 h
        refine zr_iconst (v := 0) C (by decide) dX5_bind_41 ?_
        refine zr_goto (tgt := 49) C (by decide) dX5_bind_42 ?_
        refine zr_istore (lv' := [(7, .int 0), (6, .int (I (G (F v0 1) v5.toNatClampNeg) 1)), (0, .ref v0), (1, .ref v1), (2, .int v2), (3, .int v3), (4, .int v4), (5, .int v5)]) C (by decide) rfl dX5_bind_49 ?_
        refine zr_iconst (v := 0) C (by decide) dX5_bind_51 ?_
        refine zr_istore (lv' := [(8, .int 0), (7, .int 0), (6, .int (I (G (F v0 1) v5.toNatClampNeg) 1)), (0, .ref v0), (1, .ref v1), (2, .int v2), (3, .int v3), (4, .int v4), (5, .int v5)]) C (by decide) rfl dX5_bind_52 ?_
        obtain ⟨i12, i13, h18, h⟩ := zb2_e h
        refine zr_lv (lv' := [(0, .ref v0), (1, .ref v1), (2, .int v2), (3, .int v3), (4, .int v4), (5, .int v5), (7, .int 0), (8, .int 0)]) C [3, 4, 5, 6, 7, 8, 1, 0] rfl ?_
        refine w_X5_bind_54 l D cy hZ C (Nat.le_trans (Nat.le_of_ble_eq_true rfl) hRf) (Nat.le_trans (Nat.le_of_ble_eq_true rfl) hRl) hRc v0 v1 v2 v3 v4 v5 k0 k1 I A 2000 (0, 0) (i12, i13) h18 ?_
        refine zr_aload_n C 1 rfl rfl dX5_bind_92 ?_
        refine zr_iload C 5 rfl dX5_bind_93 ?_
        refine zr_iload C 6 rfl dX5_bind_95 ?_
        refine zr_aload_n C 0 rfl rfl dX5_bind_97 ?_
        refine zr_get (ci := 5) (k := 1) (v := .ref (F v0 1)) C k0 (by decide) rfl zinX5 (by decide) wd_159 rfl dX5_bind_98 ?_
        refine zr_iload C 5 rfl dX5_bind_101 ?_
        obtain ⟨hc14, h⟩ := zck_e h
        refine zr_ald8 C (zt51 hZ k0).1 (zt51 hZ k0).2 hc14 dX5_bind_103 ?_
        refine zr_get (ci := 2) (k := 2) (v := .int (I (G (F v0 1) v5.toNatClampNeg) 2)) C (zt8 hZ (zt51 hZ k0).1 (z_ix (zt51 hZ k0).2 hc14)) (by decide) rfl zinX2 (by decide) wd_84 rfl dX5_bind_104 ?_
        refine zr_iconst (v := (-1)) C (by decide) dX5_bind_107 ?_
        refine zr_ixor C dX5_bind_108 ?_
        refine zr_iand C dX5_bind_109 ?_
        refine zr_aload_n C 0 rfl rfl dX5_bind_110 ?_
        refine zr_get (ci := 5) (k := 4) (v := .ref (F v0 4)) C k0 (by decide) rfl zinX5 (by decide) wd_162 rfl dX5_bind_111 ?_
        obtain ⟨A15, h16, h⟩ := zb_e h
        refine zr_callVv (n := 3) (As := [.int v5, .int (i12 &&& ((I (G (F v0 1) v5.toNatClampNeg) 2) ^^^ (-1))), .ref (F v0 4)]) C (c_X0_put l D cy hZ v1 v5 (i12 &&& ((I (G (F v0 1) v5.toNatClampNeg) 2) ^^^ (-1))) (F v0 4) k1 (zt54 hZ k0).1 (zt54 hZ k0).2 I A h16) wd_318 wd_319 wd_320 wd_3 wd_321 (by decide +kernel) ⟨(Nat.le_trans (Nat.le_of_ble_eq_true rfl) hRf), (Nat.le_trans (Nat.le_of_ble_eq_true rfl) hRl)⟩ rfl rfl hRc k1 (by decide) rfl rfl rfl (Nat.le_of_ble_eq_true rfl) dX5_bind_114 ?_
        refine zr_iinc (v := v5 + 1) (lv' := [(5, .int (v5 + 1)), (0, .ref v0), (1, .ref v1), (2, .int v2), (3, .int v3), (4, .int v4), (7, .int i12), (8, .int i13)]) C 5 rfl rfl (by decide) rfl dX5_bind_117 ?_
        refine zr_goto (tgt := 3) C (by decide) dX5_bind_120 ?_
        obtain rfl := zso h
        refine zr_lv (lv' := [(0, .ref v0), (1, .ref v1), (2, .int v2), (3, .int v3), (4, .int v4), (5, .int (v5 + 1))]) C [1, 2, 3, 4, 5, 0] rfl ?_
        exact hg _ rfl
    · have h := zif_t hc2 h
      refine zr_iload C 4 rfl dX5_bind_18 ?_
      refine zr_goto (tgt := 33) C (by decide) dX5_bind_20 ?_
      refine zr_istore (lv' := [(6, .int v4), (0, .ref v0), (1, .ref v1), (2, .int v2), (3, .int v3), (4, .int v4), (5, .int v5)]) C (by decide) rfl dX5_bind_33 ?_
      refine zr_iload C 0 rfl dX5_bind_35 ?_
      refine zr_iconst (v := (-1)) C (by decide) dX5_bind_37 ?_
      refine zr_icmp_ne (tgt := 45) C (by decide) dX5_bind_38 (fun hc19 => ?_) (fun hc19 => ?_)
      · have h := zif_f hc19 h
        refine zr_iconst (v := 1) C (by decide) dX5_bind_45 ?_
        refine zr_iload C 0 rfl dX5_bind_46 ?_
        refine zr_ishl C dX5_bind_48 ?_
        refine zr_istore (lv' := [(7, .int ((1 : Int32) <<< (v4 &&& 31))), (6, .int v4), (0, .ref v0), (1, .ref v1), (2, .int v2), (3, .int v3), (4, .int v4), (5, .int v5)]) C (by decide) rfl dX5_bind_49 ?_
        refine zr_iconst (v := 0) C (by decide) dX5_bind_51 ?_
        refine zr_istore (lv' := [(8, .int 0), (7, .int ((1 : Int32) <<< (v4 &&& 31))), (6, .int v4), (0, .ref v0), (1, .ref v1), (2, .int v2), (3, .int v3), (4, .int v4), (5, .int v5)]) C (by decide) rfl dX5_bind_52 ?_
        obtain ⟨i20, i21, h26, h⟩ := zb2_e h
        refine zr_lv (lv' := [(0, .ref v0), (1, .ref v1), (2, .int v2), (3, .int v3), (4, .int v4), (5, .int v5), (7, .int ((1 : Int32) <<< (v4 &&& 31))), (8, .int 0)]) C [3, 4, 5, 6, 7, 8, 1, 0] rfl ?_
        refine w_X5_bind_54 l D cy hZ C (Nat.le_trans (Nat.le_of_ble_eq_true rfl) hRf) (Nat.le_trans (Nat.le_of_ble_eq_true rfl) hRl) hRc v0 v1 v2 v3 v4 v5 k0 k1 I A 2000 ((1 : Int32) <<< (v4 &&& 31), 0) (i20, i21) h26 ?_
        refine zr_aload_n C 1 rfl rfl dX5_bind_92 ?_
        refine zr_iload C 5 rfl dX5_bind_93 ?_
        refine zr_iload C 6 rfl dX5_bind_95 ?_
        refine zr_aload_n C 0 rfl rfl dX5_bind_97 ?_
        refine zr_get (ci := 5) (k := 1) (v := .ref (F v0 1)) C k0 (by decide) rfl zinX5 (by decide) wd_159 rfl dX5_bind_98 ?_
        refine zr_iload C 5 rfl dX5_bind_101 ?_
        obtain ⟨hc22, h⟩ := zck_e h
        refine zr_ald8 C (zt51 hZ k0).1 (zt51 hZ k0).2 hc22 dX5_bind_103 ?_
        refine zr_get (ci := 2) (k := 2) (v := .int (I (G (F v0 1) v5.toNatClampNeg) 2)) C (zt8 hZ (zt51 hZ k0).1 (z_ix (zt51 hZ k0).2 hc22)) (by decide) rfl zinX2 (by decide) wd_84 rfl dX5_bind_104 ?_
        refine zr_iconst (v := (-1)) C (by decide) dX5_bind_107 ?_
        refine zr_ixor C dX5_bind_108 ?_
        refine zr_iand C dX5_bind_109 ?_
        refine zr_aload_n C 0 rfl rfl dX5_bind_110 ?_
        refine zr_get (ci := 5) (k := 4) (v := .ref (F v0 4)) C k0 (by decide) rfl zinX5 (by decide) wd_162 rfl dX5_bind_111 ?_
        obtain ⟨A23, h24, h⟩ := zb_e h
        refine zr_callVv (n := 3) (As := [.int v5, .int (i20 &&& ((I (G (F v0 1) v5.toNatClampNeg) 2) ^^^ (-1))), .ref (F v0 4)]) C (c_X0_put l D cy hZ v1 v5 (i20 &&& ((I (G (F v0 1) v5.toNatClampNeg) 2) ^^^ (-1))) (F v0 4) k1 (zt54 hZ k0).1 (zt54 hZ k0).2 I A h24) wd_318 wd_319 wd_320 wd_3 wd_321 (by decide +kernel) ⟨(Nat.le_trans (Nat.le_of_ble_eq_true rfl) hRf), (Nat.le_trans (Nat.le_of_ble_eq_true rfl) hRl)⟩ rfl rfl hRc k1 (by decide) rfl rfl rfl (Nat.le_of_ble_eq_true rfl) dX5_bind_114 ?_
        refine zr_iinc (v := v5 + 1) (lv' := [(5, .int (v5 + 1)), (0, .ref v0), (1, .ref v1), (2, .int v2), (3, .int v3), (4, .int v4), (7, .int i20), (8, .int i21)]) C 5 rfl rfl (by decide) rfl dX5_bind_117 ?_
        refine zr_goto (tgt := 3) C (by decide) dX5_bind_120 ?_
        obtain rfl := zso h
        refine zr_lv (lv' := [(0, .ref v0), (1, .ref v1), (2, .int v2), (3, .int v3), (4, .int v4), (5, .int (v5 + 1))]) C [1, 2, 3, 4, 5, 0] rfl ?_
        exact hg _ rfl
      · have h := zif_t hc19 h
        refine zr_iconst (v := 0) C (by decide) dX5_bind_41 ?_
        refine zr_goto (tgt := 49) C (by decide) dX5_bind_42 ?_
        refine zr_istore (lv' := [(7, .int 0), (6, .int v4), (0, .ref v0), (1, .ref v1), (2, .int v2), (3, .int v3), (4, .int v4), (5, .int v5)]) C (by decide) rfl dX5_bind_49 ?_
        refine zr_iconst (v := 0) C (by decide) dX5_bind_51 ?_
        refine zr_istore (lv' := [(8, .int 0), (7, .int 0), (6, .int v4), (0, .ref v0), (1, .ref v1), (2, .int v2), (3, .int v3), (4, .int v4), (5, .int v5)]) C (by decide) rfl dX5_bind_52 ?_
        obtain ⟨i27, i28, h33, h⟩ := zb2_e h
        refine zr_lv (lv' := [(0, .ref v0), (1, .ref v1), (2, .int v2), (3, .int v3), (4, .int v4), (5, .int v5), (7, .int 0), (8, .int 0)]) C [3, 4, 5, 6, 7, 8, 1, 0] rfl ?_
        refine w_X5_bind_54 l D cy hZ C (Nat.le_trans (Nat.le_of_ble_eq_true rfl) hRf) (Nat.le_trans (Nat.le_of_ble_eq_true rfl) hRl) hRc v0 v1 v2 v3 v4 v5 k0 k1 I A 2000 (0, 0) (i27, i28) h33 ?_
        refine zr_aload_n C 1 rfl rfl dX5_bind_92 ?_
        refine zr_iload C 5 rfl dX5_bind_93 ?_
        refine zr_iload C 6 rfl dX5_bind_95 ?_
        refine zr_aload_n C 0 rfl rfl dX5_bind_97 ?_
        refine zr_get (ci := 5) (k := 1) (v := .ref (F v0 1)) C k0 (by decide) rfl zinX5 (by decide) wd_159 rfl dX5_bind_98 ?_
        refine zr_iload C 5 rfl dX5_bind_101 ?_
        obtain ⟨hc29, h⟩ := zck_e h
        refine zr_ald8 C (zt51 hZ k0).1 (zt51 hZ k0).2 hc29 dX5_bind_103 ?_
        refine zr_get (ci := 2) (k := 2) (v := .int (I (G (F v0 1) v5.toNatClampNeg) 2)) C (zt8 hZ (zt51 hZ k0).1 (z_ix (zt51 hZ k0).2 hc29)) (by decide) rfl zinX2 (by decide) wd_84 rfl dX5_bind_104 ?_
        refine zr_iconst (v := (-1)) C (by decide) dX5_bind_107 ?_
        refine zr_ixor C dX5_bind_108 ?_
        refine zr_iand C dX5_bind_109 ?_
        refine zr_aload_n C 0 rfl rfl dX5_bind_110 ?_
        refine zr_get (ci := 5) (k := 4) (v := .ref (F v0 4)) C k0 (by decide) rfl zinX5 (by decide) wd_162 rfl dX5_bind_111 ?_
        obtain ⟨A30, h31, h⟩ := zb_e h
        refine zr_callVv (n := 3) (As := [.int v5, .int (i27 &&& ((I (G (F v0 1) v5.toNatClampNeg) 2) ^^^ (-1))), .ref (F v0 4)]) C (c_X0_put l D cy hZ v1 v5 (i27 &&& ((I (G (F v0 1) v5.toNatClampNeg) 2) ^^^ (-1))) (F v0 4) k1 (zt54 hZ k0).1 (zt54 hZ k0).2 I A h31) wd_318 wd_319 wd_320 wd_3 wd_321 (by decide +kernel) ⟨(Nat.le_trans (Nat.le_of_ble_eq_true rfl) hRf), (Nat.le_trans (Nat.le_of_ble_eq_true rfl) hRl)⟩ rfl rfl hRc k1 (by decide) rfl rfl rfl (Nat.le_of_ble_eq_true rfl) dX5_bind_114 ?_
        refine zr_iinc (v := v5 + 1) (lv' := [(5, .int (v5 + 1)), (0, .ref v0), (1, .ref v1), (2, .int v2), (3, .int v3), (4, .int v4), (7, .int i27), (8, .int i28)]) C 5 rfl rfl (by decide) rfl dX5_bind_117 ?_
        refine zr_goto (tgt := 3) C (by decide) dX5_bind_120 ?_
        obtain rfl := zso h
        refine zr_lv (lv' := [(0, .ref v0), (1, .ref v1), (2, .int v2), (3, .int v3), (4, .int v4), (5, .int (v5 + 1))]) C [1, 2, 3, 4, 5, 0] rfl ?_
        exact hg _ rfl
set_option maxHeartbeats 4000000 in
set_option maxRecDepth 100000 in
theorem w_X5_bind_3 (l : Launch) (D : va_G) (cy : Nat → ClassId) {L : List Nat} {K N : Nat → Nat} {F G : Nat → Nat → Nat} (hZ : ZL L K N F G) {p : Program} {e : Env} {R : Room} {s : State} {m : MethodId} {args : Array Value} {below : List Frame} {meth : Method} {c : Code} {cells slots : Nat} {Q : State → Prop} (C : ZC p s m args meth c cX5_bind yX5_bind.cls 9 D cy L K N F G) (hRf : 2 ≤ R.frames) (hRl : 47 ≤ R.locals) (hRc : cells ≤ R.cells ∧ slots ≤ R.slots)  (v0 : Nat) (v1 : Nat) (v2 : Int32) (v3 : Int32) (v4 : Int32) (k0 : K v0 = 5) (k1 : K v1 = 0) (I : zH) (n : Nat) (x : Int32 × zH) (o : Int32 × zH) (h : zIt (fun x => g_X5_bind_3 F G v0 v1 v2 v3 v4 x.1 x.2 I) n x = some o)
    (hx : ZW p l e R s m args below meth c 9 D cy L K N F G cells slots Q I o.2 123 [(0, .ref v0), (1, .ref v1), (2, .int v2), (3, .int v3), (4, .int v4), (5, .int o.1)] []) : ZW p l e R s m args below meth c 9 D cy L K N F G cells slots Q I x.2 3 [(0, .ref v0), (1, .ref v1), (2, .int v2), (3, .int v3), (4, .int v4), (5, .int x.1)] [] := by
  induction n generalizing x with
  | zero => cases h
  | succ n ih =>
    unfold zIt at h
    cases hb : g_X5_bind_3 F G v0 v1 v2 v3 v4 x.1 x.2 I with
    | none => rw [hb] at h; cases h
    | some q =>
      rw [hb] at h
      refine wb_X5_bind_3 l D cy hZ C hRf hRl hRc v0 v1 v2 v3 v4 k0 k1 I x.1 x.2 q hb (fun y hy => ?_) (fun y hy => ?_)
      · subst hy; exact ih y h
      · subst hy; cases h; exact hx
set_option maxHeartbeats 4000000 in
set_option maxRecDepth 100000 in
theorem c_X5_bind (l : Launch) (D : va_G) (cy : Nat → ClassId) {L : List Nat} {K N : Nat → Nat} {F G : Nat → Nat → Nat} (hZ : ZL L K N F G) (h0 : Nat) (r0 : Nat) (p1 : Int32) (p2 : Int32) (p3 : Int32) (k_h0 : K h0 = 5) (k_r0 : K r0 = 0) (I A : zH) {B' : zH} (h : f_X5_bind F G h0 r0 p1 p2 p3 I A = some B') : ZMv l yX5_bind cX5_bind 9 none { frames := 2, cells := 0, slots := 0, locals := 47 } D cy L K N F G [.ref h0, .ref r0, .int p1, .int p2, .int p3] I A I B' := by
  refine ZMv.of (nL := 9) hZ rfl rfl (by decide) (Nat.le_of_ble_eq_true rfl) (fun p e s m args below meth c C hr => ?_)
  unfold f_X5_bind at h
  refine zr_lv (lv' := [(0, .ref h0), (1, .ref r0), (2, .int p1), (3, .int p2), (4, .int p3)]) C [0, 1, 2, 3, 4] rfl ?_
  refine zr_iconst (v := 0) C (by decide) dX5_bind_0 ?_
  refine zr_istore (lv' := [(5, .int 0), (0, .ref h0), (1, .ref r0), (2, .int p1), (3, .int p2), (4, .int p3)]) C (by decide) rfl dX5_bind_1 ?_
  obtain ⟨i1, A2, h3, h⟩ := zb2_e h
  refine zr_lv (lv' := [(0, .ref h0), (1, .ref r0), (2, .int p1), (3, .int p2), (4, .int p3), (5, .int 0)]) C [1, 2, 3, 4, 5, 0] rfl ?_
  refine w_X5_bind_3 l D cy hZ C (Nat.le_of_ble_eq_true rfl) (Nat.le_of_ble_eq_true rfl) ⟨Nat.le_of_ble_eq_true rfl, Nat.le_of_ble_eq_true rfl⟩ h0 r0 p1 p2 p3 k_h0 k_r0 I  2000 (0, A) (i1, A2) h3 ?_
  obtain rfl := zso h
  exact zr_vret C hr dX5_bind_123

