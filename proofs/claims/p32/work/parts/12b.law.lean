def g_L_isFair_116 (F G : Nat → Nat → Nat) (v0 : Nat) (v1 : Int64) (v3 : Int32) (v4 : Int32) (v6 : Int32) (I : zH) (A : zH) : Option ((Int32) ⊕ (Int32)) :=
  if v4 ≤ v6 then (
    some (.inr v6)
  ) else (
    zb (f_X5_share F G v0 v4 v6 I A) fun r2 =>
    zb (f_X5_share F G v0 v6 v4 I A) fun r5 =>
    if r2 = r5 then (
      if r2 < 0 then (
        none
      ) else (
        if 100 < r2 then (
          none
        ) else (
          zb (f_X5_many F G v0 10 I A) fun r11 =>
          if r2 < r11 then (
            zb (f_X5_ofPiece F G v0 v4 5 I A) fun r15 =>
            zb (f_X5_ofPiece F G v0 v6 6 I A) fun r18 =>
            if ((r15 >>> (v6 &&& 31)) &&& 1) = ((r18 >>> (v4 &&& 31)) &&& 1) then (
              some (.inl (v6 + 1))
            ) else (
              none
            )
          ) else (
            zb (f_X5_ofPiece F G v0 v4 5 I A) fun r22 =>
            if ((r22 >>> (v6 &&& 31)) &&& 1) = 0 then (
              none
            ) else (
              zb (f_X5_ofPiece F G v0 v6 3 I A) fun r26 =>
              zb (f_X5_ofPiece F G v0 v4 3 I A) fun r29 =>
              zb (f_X5_ofPiece F G v0 v4 4 I A) fun r32 =>
              if ((r26 &&& (r29 ^^^ (-1))) &&& (r32 ^^^ (-1))) = 0 then (
                zb (f_X5_ofPiece F G v0 v4 5 I A) fun r36 =>
                zb (f_X5_ofPiece F G v0 v6 6 I A) fun r39 =>
                if ((r36 >>> (v6 &&& 31)) &&& 1) = ((r39 >>> (v4 &&& 31)) &&& 1) then (
                  some (.inl (v6 + 1))
                ) else (
                  none
                )
              ) else (
                none
              )
            )
          )
        )
      )
    ) else (
      none
    )
  )
def g_L_isFair_14 (F G : Nat → Nat → Nat) (v0 : Nat) (v1 : Int64) (v3 : Int32) (v4 : Int32) (I : zH) (A : zH) : Option ((Int32) ⊕ (Int32)) :=
  if v3 ≤ v4 then (
    some (.inr v4)
  ) else (
    zb (f_X5_share F G v0 v4 v4 I A) fun r2 =>
    if r2 = 100 then (
      zb (f_X5_ofPiece F G v0 v4 3 I A) fun r6 =>
      zb (f_X5_ofPiece F G v0 v4 4 I A) fun r9 =>
      if (r6 &&& r9) = 0 then (
        zb (f_X5_ofPiece F G v0 v4 5 I A) fun r13 =>
        if r13 < ((1 : Int32) <<< (v4 &&& 31)) then (
          zb (f_X5_ofPiece F G v0 v4 2 I A) fun r17 =>
          if r17 < 0 then (
            zb (zIt (fun x => g_L_isFair_116 F G v0 v1 v3 v4 x I A) 2000 0) fun i21 =>
            some (.inl (v4 + 1))
          ) else (
            zb (f_X5_ofPiece F G v0 v4 3 I A) fun r23 =>
            if ((r23 >>> (r17 &&& 31)) &&& 1) = 0 then (
              zb (f_X5_ofPiece F G v0 v4 4 I A) fun r29 =>
              if ((r29 >>> (r17 &&& 31)) &&& 1) = 0 then (
                none
              ) else (
                zb (zIt (fun x => g_L_isFair_116 F G v0 v1 v3 v4 x I A) 2000 0) fun i33 =>
                some (.inl (v4 + 1))
              )
            ) else (
              zb (zIt (fun x => g_L_isFair_116 F G v0 v1 v3 v4 x I A) 2000 0) fun i27 =>
              some (.inl (v4 + 1))
            )
          )
        ) else (
          none
        )
      ) else (
        none
      )
    ) else (
      none
    )
  )
def g_L_isFair_270 (F G : Nat → Nat → Nat) (v0 : Nat) (v1 : Int64) (v4 : Int32) (v5 : Int32) (I : zH) (A : zH) : Option ((Int32) ⊕ (Int32)) :=
  if 4 ≤ v5 then (
    some (.inr v5)
  ) else (
    zb (f_X5_ofLicence F G v0 v4 4 I A) fun r2 =>
    zb (f_X5_ofLicence F G v0 v5 4 I A) fun r5 =>
    if ((r2 >>> (v5 &&& 31)) &&& 1) = ((r5 >>> (v4 &&& 31)) &&& 1) then (
      some (.inl (v5 + 1))
    ) else (
      none
    )
  )
def g_L_isFair_261 (F G : Nat → Nat → Nat) (v0 : Nat) (v1 : Int64) (v4 : Int32) (I : zH) (A : zH) : Option ((Int32) ⊕ (Int32)) :=
  if 4 ≤ v4 then (
    some (.inr v4)
  ) else (
    zb (zIt (fun x => g_L_isFair_270 F G v0 v1 v4 x I A) 2000 0) fun i2 =>
    some (.inl (v4 + 1))
  )
def g_L_isFair_369 (F G : Nat → Nat → Nat) (v0 : Nat) (v1 : Int64) (v4 : Int32) (v5 : Int32) (v6 : Int32) (v7 : Int32) (I : zH) (A : zH) : Option ((Int32) ⊕ (Int32)) :=
  if 10 ≤ v7 then (
    some (.inr v7)
  ) else (
    if ((v6 >>> (v7 &&& 31)) &&& 1) = 1 then (
      zb (f_X5_ofNode F G v0 v4 v7 3 I A) fun r3 =>
      if ((r3 >>> (v5 &&& 31)) &&& 1) = 0 then (
        none
      ) else (
        some (.inl (v7 + 1))
      )
    ) else (
      some (.inl (v7 + 1))
    )
  )
def g_L_isFair_329 (F G : Nat → Nat → Nat) (v0 : Nat) (v1 : Int64) (v4 : Int32) (v5 : Int32) (I : zH) (A : zH) : Option ((Int32) ⊕ (Int32)) :=
  if 10 ≤ v5 then (
    some (.inr v5)
  ) else (
    zb (f_X5_ofProject F G v0 v4 6 I A) fun r2 =>
    if ((r2 >>> (v5 &&& 31)) &&& 1) = 0 then (
      some (.inl (v5 + 1))
    ) else (
      zb (f_X5_ofNode F G v0 v4 v5 3 I A) fun r6 =>
      zb (zIt (fun x => g_L_isFair_369 F G v0 v1 v4 v5 r6 x I A) 2000 0) fun i9 =>
      zb (f_X5_substitute F G v0 v4 v5 I A) fun r10 =>
      if r10 < 0 then (
        some (.inl (v5 + 1))
      ) else (
        zb (f_X5_ofNode F G v0 v4 v5 1 I A) fun r14 =>
        if r10 = r14 then (
          none
        ) else (
          zb (f_X5_clashesWith F G v0 v4 v5 r10 I A) fun r18 =>
          zb (f_X5_ofProject F G v0 v4 2 I A) fun r21 =>
          if r18 ≤ r21 then (
            some (.inl (v5 + 1))
          ) else (
            none
          )
        )
      )
    )
  )
def g_L_isFair_320 (F G : Nat → Nat → Nat) (v0 : Nat) (v1 : Int64) (v4 : Int32) (I : zH) (A : zH) : Option ((Int32) ⊕ (Int32)) :=
  if 2 ≤ v4 then (
    some (.inr v4)
  ) else (
    zb (zIt (fun x => g_L_isFair_329 F G v0 v1 v4 x I A) 2000 0) fun i2 =>
    some (.inl (v4 + 1))
  )
def f_L_isFair (F G : Nat → Nat → Nat) (r0 : Nat) (I A : zH) : Option (Int32 × zH) :=
  zb2 (f_X5_digest F G r0 I A) fun r1 A2 =>
  zb (f_X5_many F G r0 1 I A2) fun r5 =>
  zb (zIt (fun x => g_L_isFair_14 F G r0 r1 r5 x I A2) 2000 0) fun i8 =>
  zb (zIt (fun x => g_L_isFair_261 F G r0 r1 x I A2) 2000 0) fun i9 =>
  zb (zIt (fun x => g_L_isFair_320 F G r0 r1 x I A2) 2000 0) fun i10 =>
  zb (f_X5_many F G r0 10 I A2) fun r11 =>
  zb2 (f_X5_boundWith F G r0 r11 I A2) fun r14 A15 =>
  if r14 = 0 then (
    zb2 (f_X5_digest F G r0 I A15) fun r19 A20 =>
    if (lg_cmp r19 r1) = 0 then (
      some (1, A20)
    ) else (
      none
    )
  ) else (
    none
  )
set_option maxHeartbeats 4000000 in
set_option maxRecDepth 100000 in
theorem wb_L_isFair_116 (l : Launch) (D : va_G) (cy : Nat → ClassId) {L : List Nat} {K N : Nat → Nat} {F G : Nat → Nat → Nat} (hZ : ZL L K N F G) {p : Program} {e : Env} {R : Room} {s : State} {m : MethodId} {args : Array Value} {below : List Frame} {meth : Method} {c : Code} {cells slots : Nat} {Q : State → Prop} (C : ZC p s m args meth c cL_isFair yL_isFair.cls 8 D cy L K N F G) (hRf : 4 ≤ R.frames) (hRl : 90 ≤ R.locals) (hRc : cells ≤ R.cells ∧ slots ≤ R.slots)  (v0 : Nat) (v1 : Int64) (v3 : Int32) (v4 : Int32) (k0 : K v0 = 5) (I : zH) (A : zH) (v6 : Int32) (o : (Int32) ⊕ (Int32)) (h : g_L_isFair_116 F G v0 v1 v3 v4 v6 I A = some o)
    (hg : ∀ y : Int32, o = .inl y → ZW p l e R s m args below meth c 8 D cy L K N F G cells slots Q I A 116 [(0, .ref v0), (1, .long v1), (3, .int v3), (4, .int v4), (6, .int y)] [])
    (hx : ∀ y : Int32, o = .inr y → ZW p l e R s m args below meth c 8 D cy L K N F G cells slots Q I A 252 [(0, .ref v0), (1, .long v1), (3, .int v3), (4, .int v4), (6, .int y)] []) : ZW p l e R s m args below meth c 8 D cy L K N F G cells slots Q I A 116 [(0, .ref v0), (1, .long v1), (3, .int v3), (4, .int v4), (6, .int v6)] [] := by
  unfold g_L_isFair_116 at h
  refine zr_iload C 4 rfl dL_isFair_116 ?_
  refine zr_iload C 3 rfl dL_isFair_118 ?_
  refine zr_icmp_ge (tgt := 252) C (by decide) dL_isFair_120 (fun hc1 => ?_) (fun hc1 => ?_)
  · have h := zif_t hc1 h
    obtain rfl := zso h
    refine zr_lv (lv' := [(0, .ref v0), (1, .long v1), (3, .int v3), (4, .int v4), (6, .int v6)]) C [0, 1, 2, 3, 4] rfl ?_
    exact hx _ rfl
  · have h := zif_f hc1 h
    refine zr_aload_n C 0 rfl rfl dL_isFair_123 ?_
    refine zr_iload C 3 rfl dL_isFair_124 ?_
    refine zr_iload C 4 rfl dL_isFair_126 ?_
    obtain ⟨r2, h3, h⟩ := zb_e h
    refine zr_callVi (n := 2) (As := [.int v4, .int v6]) C (c_X5_share l D cy hZ v0 v4 v6 k0 I A h3) wd_646 wd_610 wd_611 wd_1 wd_612 (by decide +kernel) ⟨(Nat.le_trans (Nat.le_of_ble_eq_true rfl) hRf), (Nat.le_trans (Nat.le_of_ble_eq_true rfl) hRl)⟩ rfl rfl hRc k0 (by decide) rfl rfl rfl (Nat.le_of_ble_eq_true rfl) dL_isFair_128 ?_
    refine zr_istore (lv' := [(7, .int r2), (0, .ref v0), (1, .long v1), (3, .int v3), (4, .int v4), (6, .int v6)]) C (by decide) rfl dL_isFair_131 ?_
    refine zr_iload C 0 rfl dL_isFair_133 ?_
    refine zr_aload_n C 1 rfl rfl dL_isFair_135 ?_
    refine zr_iload C 5 rfl dL_isFair_136 ?_
    refine zr_iload C 4 rfl dL_isFair_138 ?_
    obtain ⟨r5, h6, h⟩ := zb_e h
    refine zr_callVi (n := 2) (As := [.int v6, .int v4]) C (c_X5_share l D cy hZ v0 v6 v4 k0 I A h6) wd_646 wd_610 wd_611 wd_1 wd_612 (by decide +kernel) ⟨(Nat.le_trans (Nat.le_of_ble_eq_true rfl) hRf), (Nat.le_trans (Nat.le_of_ble_eq_true rfl) hRl)⟩ rfl rfl hRc k0 (by decide) rfl rfl rfl (Nat.le_of_ble_eq_true rfl) dL_isFair_140 ?_
    refine zr_icmp_ne (tgt := 214) C (by decide) dL_isFair_143 (fun hc8 => ?_) (fun hc8 => ?_)
    · have h := zif_f hc8 h
      refine zr_iconst (v := 0) C (by decide) dL_isFair_214 ?_
      exact zno h
    · have h := zif_t hc8 h
      refine zr_iload C 0 rfl dL_isFair_146 ?_
      refine zr_if_lt (tgt := 214) C (by decide) dL_isFair_148 (fun hc9 => ?_) (fun hc9 => ?_)
      · have h := zif_t hc9 h
        refine zr_iconst (v := 0) C (by decide) dL_isFair_214 ?_
        exact zno h
      · have h := zif_f hc9 h
        refine zr_iload C 0 rfl dL_isFair_151 ?_
        refine zr_bipush (v := 100) C (by decide) dL_isFair_153 ?_
        refine zr_icmp_gt (tgt := 214) C (by decide) dL_isFair_155 (fun hc10 => ?_) (fun hc10 => ?_)
        · have h := zif_t hc10 h
          refine zr_iconst (v := 0) C (by decide) dL_isFair_214 ?_
          exact zno h
        · have h := zif_f hc10 h
          refine zr_iload C 0 rfl dL_isFair_158 ?_
          refine zr_aload_n C 1 rfl rfl dL_isFair_160 ?_
          refine zr_bipush (v := 10) C (by decide) dL_isFair_161 ?_
          obtain ⟨r11, h12, h⟩ := zb_e h
          refine zr_callVi (n := 1) (As := [.int 10]) C (c_X5_many l D cy hZ v0 10 k0 I A h12) wd_507 wd_508 wd_509 wd_1 wd_510 (by decide +kernel) ⟨(Nat.le_trans (Nat.le_of_ble_eq_true rfl) hRf), (Nat.le_trans (Nat.le_of_ble_eq_true rfl) hRl)⟩ rfl rfl hRc k0 (by decide) rfl rfl rfl (Nat.le_of_ble_eq_true rfl) dL_isFair_163 ?_
          refine zr_icmp_lt (tgt := 216) C (by decide) dL_isFair_166 (fun hc14 => ?_) (fun hc14 => ?_)
          · have h := zif_t hc14 h
            refine zr_aload_n C 1 rfl rfl dL_isFair_216 ?_
            refine zr_iload C 4 rfl dL_isFair_217 ?_
            refine zr_iconst (v := 5) C (by decide) dL_isFair_219 ?_
            obtain ⟨r15, h16, h⟩ := zb_e h
            refine zr_callVi (n := 2) (As := [.int v4, .int 5]) C (c_X5_ofPiece l D cy hZ v0 v4 5 k0 I A h16) wd_364 wd_365 wd_366 wd_1 wd_367 (by decide +kernel) ⟨(Nat.le_trans (Nat.le_of_ble_eq_true rfl) hRf), (Nat.le_trans (Nat.le_of_ble_eq_true rfl) hRl)⟩ rfl rfl hRc k0 (by decide) rfl rfl rfl (Nat.le_of_ble_eq_true rfl) dL_isFair_220 ?_
            refine zr_iload C 5 rfl dL_isFair_223 ?_
            refine zr_ishr C dL_isFair_225 ?_
            refine zr_iconst (v := 1) C (by decide) dL_isFair_226 ?_
            refine zr_iand C dL_isFair_227 ?_
            refine zr_aload_n C 1 rfl rfl dL_isFair_228 ?_
            refine zr_iload C 5 rfl dL_isFair_229 ?_
            refine zr_bipush (v := 6) C (by decide) dL_isFair_231 ?_
            obtain ⟨r18, h19, h⟩ := zb_e h
            refine zr_callVi (n := 2) (As := [.int v6, .int 6]) C (c_X5_ofPiece l D cy hZ v0 v6 6 k0 I A h19) wd_364 wd_365 wd_366 wd_1 wd_367 (by decide +kernel) ⟨(Nat.le_trans (Nat.le_of_ble_eq_true rfl) hRf), (Nat.le_trans (Nat.le_of_ble_eq_true rfl) hRl)⟩ rfl rfl hRc k0 (by decide) rfl rfl rfl (Nat.le_of_ble_eq_true rfl) dL_isFair_233 ?_
            refine zr_iload C 4 rfl dL_isFair_236 ?_
            refine zr_ishr C dL_isFair_238 ?_
            refine zr_iconst (v := 1) C (by decide) dL_isFair_239 ?_
            refine zr_iand C dL_isFair_240 ?_
            refine zr_icmp_eq (tgt := 246) C (by decide) dL_isFair_241 (fun hc21 => ?_) (fun hc21 => ?_)
            · have h := zif_t hc21 h
              refine zr_iinc (v := v6 + 1) (lv' := [(6, .int (v6 + 1)), (7, .int r2), (0, .ref v0), (1, .long v1), (3, .int v3), (4, .int v4)]) C 5 rfl rfl (by decide) rfl dL_isFair_246 ?_
              refine zr_goto (tgt := 116) C (by decide) dL_isFair_249 ?_
              obtain rfl := zso h
              refine zr_lv (lv' := [(0, .ref v0), (1, .long v1), (3, .int v3), (4, .int v4), (6, .int (v6 + 1))]) C [2, 3, 4, 5, 0] rfl ?_
              exact hg _ rfl
            · have h := zif_f hc21 h
              refine zr_iconst (v := 0) C (by decide) dL_isFair_244 ?_
              exact zno h
          · have h := zif_f hc14 h
            refine zr_aload_n C 1 rfl rfl dL_isFair_169 ?_
            refine zr_iload C 4 rfl dL_isFair_170 ?_
            refine zr_iconst (v := 5) C (by decide) dL_isFair_172 ?_
            obtain ⟨r22, h23, h⟩ := zb_e h
            refine zr_callVi (n := 2) (As := [.int v4, .int 5]) C (c_X5_ofPiece l D cy hZ v0 v4 5 k0 I A h23) wd_364 wd_365 wd_366 wd_1 wd_367 (by decide +kernel) ⟨(Nat.le_trans (Nat.le_of_ble_eq_true rfl) hRf), (Nat.le_trans (Nat.le_of_ble_eq_true rfl) hRl)⟩ rfl rfl hRc k0 (by decide) rfl rfl rfl (Nat.le_of_ble_eq_true rfl) dL_isFair_173 ?_
            refine zr_iload C 5 rfl dL_isFair_176 ?_
            refine zr_ishr C dL_isFair_178 ?_
            refine zr_iconst (v := 1) C (by decide) dL_isFair_179 ?_
            refine zr_iand C dL_isFair_180 ?_
            refine zr_if_eq (tgt := 214) C (by decide) dL_isFair_181 (fun hc25 => ?_) (fun hc25 => ?_)
            · have h := zif_t hc25 h
              refine zr_iconst (v := 0) C (by decide) dL_isFair_214 ?_
              exact zno h
            · have h := zif_f hc25 h
              refine zr_aload_n C 1 rfl rfl dL_isFair_184 ?_
              refine zr_iload C 5 rfl dL_isFair_185 ?_
              refine zr_iconst (v := 3) C (by decide) dL_isFair_187 ?_
              obtain ⟨r26, h27, h⟩ := zb_e h
              refine zr_callVi (n := 2) (As := [.int v6, .int 3]) C (c_X5_ofPiece l D cy hZ v0 v6 3 k0 I A h27) wd_364 wd_365 wd_366 wd_1 wd_367 (by decide +kernel) ⟨(Nat.le_trans (Nat.le_of_ble_eq_true rfl) hRf), (Nat.le_trans (Nat.le_of_ble_eq_true rfl) hRl)⟩ rfl rfl hRc k0 (by decide) rfl rfl rfl (Nat.le_of_ble_eq_true rfl) dL_isFair_188 ?_
              refine zr_aload_n C 1 rfl rfl dL_isFair_191 ?_
              refine zr_iload C 4 rfl dL_isFair_192 ?_
              refine zr_iconst (v := 3) C (by decide) dL_isFair_194 ?_
              obtain ⟨r29, h30, h⟩ := zb_e h
              refine zr_callVi (n := 2) (As := [.int v4, .int 3]) C (c_X5_ofPiece l D cy hZ v0 v4 3 k0 I A h30) wd_364 wd_365 wd_366 wd_1 wd_367 (by decide +kernel) ⟨(Nat.le_trans (Nat.le_of_ble_eq_true rfl) hRf), (Nat.le_trans (Nat.le_of_ble_eq_true rfl) hRl)⟩ rfl rfl hRc k0 (by decide) rfl rfl rfl (Nat.le_of_ble_eq_true rfl) dL_isFair_195 ?_
              refine zr_iconst (v := (-1)) C (by decide) dL_isFair_198 ?_
              refine zr_ixor C dL_isFair_199 ?_
              refine zr_iand C dL_isFair_200 ?_
              refine zr_aload_n C 1 rfl rfl dL_isFair_201 ?_
              refine zr_iload C 4 rfl dL_isFair_202 ?_
              refine zr_iconst (v := 4) C (by decide) dL_isFair_204 ?_
              obtain ⟨r32, h33, h⟩ := zb_e h
              refine zr_callVi (n := 2) (As := [.int v4, .int 4]) C (c_X5_ofPiece l D cy hZ v0 v4 4 k0 I A h33) wd_364 wd_365 wd_366 wd_1 wd_367 (by decide +kernel) ⟨(Nat.le_trans (Nat.le_of_ble_eq_true rfl) hRf), (Nat.le_trans (Nat.le_of_ble_eq_true rfl) hRl)⟩ rfl rfl hRc k0 (by decide) rfl rfl rfl (Nat.le_of_ble_eq_true rfl) dL_isFair_205 ?_
              refine zr_iconst (v := (-1)) C (by decide) dL_isFair_208 ?_
              refine zr_ixor C dL_isFair_209 ?_
              refine zr_iand C dL_isFair_210 ?_
              refine zr_if_eq (tgt := 216) C (by decide) dL_isFair_211 (fun hc35 => ?_) (fun hc35 => ?_)
              · have h := zif_t hc35 h
                refine zr_aload_n C 1 rfl rfl dL_isFair_216 ?_
                refine zr_iload C 4 rfl dL_isFair_217 ?_
                refine zr_iconst (v := 5) C (by decide) dL_isFair_219 ?_
                obtain ⟨r36, h37, h⟩ := zb_e h
                refine zr_callVi (n := 2) (As := [.int v4, .int 5]) C (c_X5_ofPiece l D cy hZ v0 v4 5 k0 I A h37) wd_364 wd_365 wd_366 wd_1 wd_367 (by decide +kernel) ⟨(Nat.le_trans (Nat.le_of_ble_eq_true rfl) hRf), (Nat.le_trans (Nat.le_of_ble_eq_true rfl) hRl)⟩ rfl rfl hRc k0 (by decide) rfl rfl rfl (Nat.le_of_ble_eq_true rfl) dL_isFair_220 ?_
                refine zr_iload C 5 rfl dL_isFair_223 ?_
                refine zr_ishr C dL_isFair_225 ?_
                refine zr_iconst (v := 1) C (by decide) dL_isFair_226 ?_
                refine zr_iand C dL_isFair_227 ?_
                refine zr_aload_n C 1 rfl rfl dL_isFair_228 ?_
                refine zr_iload C 5 rfl dL_isFair_229 ?_
                refine zr_bipush (v := 6) C (by decide) dL_isFair_231 ?_
                obtain ⟨r39, h40, h⟩ := zb_e h
                refine zr_callVi (n := 2) (As := [.int v6, .int 6]) C (c_X5_ofPiece l D cy hZ v0 v6 6 k0 I A h40) wd_364 wd_365 wd_366 wd_1 wd_367 (by decide +kernel) ⟨(Nat.le_trans (Nat.le_of_ble_eq_true rfl) hRf), (Nat.le_trans (Nat.le_of_ble_eq_true rfl) hRl)⟩ rfl rfl hRc k0 (by decide) rfl rfl rfl (Nat.le_of_ble_eq_true rfl) dL_isFair_233 ?_
                refine zr_iload C 4 rfl dL_isFair_236 ?_
                refine zr_ishr C dL_isFair_238 ?_
                refine zr_iconst (v := 1) C (by decide) dL_isFair_239 ?_
                refine zr_iand C dL_isFair_240 ?_
                refine zr_icmp_eq (tgt := 246) C (by decide) dL_isFair_241 (fun hc42 => ?_) (fun hc42 => ?_)
                · have h := zif_t hc42 h
                  refine zr_iinc (v := v6 + 1) (lv' := [(6, .int (v6 + 1)), (7, .int r2), (0, .ref v0), (1, .long v1), (3, .int v3), (4, .int v4)]) C 5 rfl rfl (by decide) rfl dL_isFair_246 ?_
                  refine zr_goto (tgt := 116) C (by decide) dL_isFair_249 ?_
                  obtain rfl := zso h
                  refine zr_lv (lv' := [(0, .ref v0), (1, .long v1), (3, .int v3), (4, .int v4), (6, .int (v6 + 1))]) C [2, 3, 4, 5, 0] rfl ?_
                  exact hg _ rfl
                · have h := zif_f hc42 h
                  refine zr_iconst (v := 0) C (by decide) dL_isFair_244 ?_
                  exact zno h
              · have h := zif_f hc35 h
                refine zr_iconst (v := 0) C (by decide) dL_isFair_214 ?_
                exact zno h
set_option maxHeartbeats 4000000 in
set_option maxRecDepth 100000 in
theorem w_L_isFair_116 (l : Launch) (D : va_G) (cy : Nat → ClassId) {L : List Nat} {K N : Nat → Nat} {F G : Nat → Nat → Nat} (hZ : ZL L K N F G) {p : Program} {e : Env} {R : Room} {s : State} {m : MethodId} {args : Array Value} {below : List Frame} {meth : Method} {c : Code} {cells slots : Nat} {Q : State → Prop} (C : ZC p s m args meth c cL_isFair yL_isFair.cls 8 D cy L K N F G) (hRf : 4 ≤ R.frames) (hRl : 90 ≤ R.locals) (hRc : cells ≤ R.cells ∧ slots ≤ R.slots)  (v0 : Nat) (v1 : Int64) (v3 : Int32) (v4 : Int32) (k0 : K v0 = 5) (I : zH) (A : zH) (n : Nat) (x : Int32) (o : Int32) (h : zIt (fun x => g_L_isFair_116 F G v0 v1 v3 v4 x I A) n x = some o)
    (hx : ZW p l e R s m args below meth c 8 D cy L K N F G cells slots Q I A 252 [(0, .ref v0), (1, .long v1), (3, .int v3), (4, .int v4), (6, .int o)] []) : ZW p l e R s m args below meth c 8 D cy L K N F G cells slots Q I A 116 [(0, .ref v0), (1, .long v1), (3, .int v3), (4, .int v4), (6, .int x)] [] := by
  induction n generalizing x with
  | zero => cases h
  | succ n ih =>
    unfold zIt at h
    cases hb : g_L_isFair_116 F G v0 v1 v3 v4 x I A with
    | none => rw [hb] at h; cases h
    | some q =>
      rw [hb] at h
      refine wb_L_isFair_116 l D cy hZ C hRf hRl hRc v0 v1 v3 v4 k0 I A x q hb (fun y hy => ?_) (fun y hy => ?_)
      · subst hy; exact ih y h
      · subst hy; cases h; exact hx
set_option maxHeartbeats 4000000 in
set_option maxRecDepth 100000 in
theorem wb_L_isFair_14 (l : Launch) (D : va_G) (cy : Nat → ClassId) {L : List Nat} {K N : Nat → Nat} {F G : Nat → Nat → Nat} (hZ : ZL L K N F G) {p : Program} {e : Env} {R : Room} {s : State} {m : MethodId} {args : Array Value} {below : List Frame} {meth : Method} {c : Code} {cells slots : Nat} {Q : State → Prop} (C : ZC p s m args meth c cL_isFair yL_isFair.cls 8 D cy L K N F G) (hRf : 4 ≤ R.frames) (hRl : 90 ≤ R.locals) (hRc : cells ≤ R.cells ∧ slots ≤ R.slots)  (v0 : Nat) (v1 : Int64) (v3 : Int32) (k0 : K v0 = 5) (I : zH) (A : zH) (v4 : Int32) (o : (Int32) ⊕ (Int32)) (h : g_L_isFair_14 F G v0 v1 v3 v4 I A = some o)
    (hg : ∀ y : Int32, o = .inl y → ZW p l e R s m args below meth c 8 D cy L K N F G cells slots Q I A 14 [(0, .ref v0), (1, .long v1), (3, .int v3), (4, .int y)] [])
    (hx : ∀ y : Int32, o = .inr y → ZW p l e R s m args below meth c 8 D cy L K N F G cells slots Q I A 258 [(0, .ref v0), (1, .long v1), (3, .int v3), (4, .int y)] []) : ZW p l e R s m args below meth c 8 D cy L K N F G cells slots Q I A 14 [(0, .ref v0), (1, .long v1), (3, .int v3), (4, .int v4)] [] := by
  unfold g_L_isFair_14 at h
  refine zr_iload C 3 rfl dL_isFair_14 ?_
  refine zr_iload_n C 2 rfl rfl dL_isFair_16 ?_
  refine zr_icmp_ge (tgt := 258) C (by decide) dL_isFair_17 (fun hc1 => ?_) (fun hc1 => ?_)
  · have h := zif_t hc1 h
    obtain rfl := zso h
    refine zr_lv (lv' := [(0, .ref v0), (1, .long v1), (3, .int v3), (4, .int v4)]) C [0, 1, 2, 3] rfl ?_
    exact hx _ rfl
  · have h := zif_f hc1 h
    refine zr_aload_n C 0 rfl rfl dL_isFair_20 ?_
    refine zr_iload C 3 rfl dL_isFair_21 ?_
    refine zr_iload C 3 rfl dL_isFair_23 ?_
    obtain ⟨r2, h3, h⟩ := zb_e h
    refine zr_callVi (n := 2) (As := [.int v4, .int v4]) C (c_X5_share l D cy hZ v0 v4 v4 k0 I A h3) wd_646 wd_610 wd_611 wd_1 wd_612 (by decide +kernel) ⟨(Nat.le_trans (Nat.le_of_ble_eq_true rfl) hRf), (Nat.le_trans (Nat.le_of_ble_eq_true rfl) hRl)⟩ rfl rfl hRc k0 (by decide) rfl rfl rfl (Nat.le_of_ble_eq_true rfl) dL_isFair_25 ?_
    refine zr_bipush (v := 100) C (by decide) dL_isFair_28 ?_
    refine zr_icmp_ne (tgt := 65) C (by decide) dL_isFair_30 (fun hc5 => ?_) (fun hc5 => ?_)
    · have h := zif_f hc5 h
      refine zr_iconst (v := 0) C (by decide) dL_isFair_65 ?_
      exact zno h
    · have h := zif_t hc5 h
      refine zr_aload_n C 0 rfl rfl dL_isFair_33 ?_
      refine zr_iload C 3 rfl dL_isFair_34 ?_
      refine zr_iconst (v := 3) C (by decide) dL_isFair_36 ?_
      obtain ⟨r6, h7, h⟩ := zb_e h
      refine zr_callVi (n := 2) (As := [.int v4, .int 3]) C (c_X5_ofPiece l D cy hZ v0 v4 3 k0 I A h7) wd_364 wd_365 wd_366 wd_1 wd_367 (by decide +kernel) ⟨(Nat.le_trans (Nat.le_of_ble_eq_true rfl) hRf), (Nat.le_trans (Nat.le_of_ble_eq_true rfl) hRl)⟩ rfl rfl hRc k0 (by decide) rfl rfl rfl (Nat.le_of_ble_eq_true rfl) dL_isFair_37 ?_
      refine zr_aload_n C 0 rfl rfl dL_isFair_40 ?_
      refine zr_iload C 3 rfl dL_isFair_41 ?_
      refine zr_iconst (v := 4) C (by decide) dL_isFair_43 ?_
      obtain ⟨r9, h10, h⟩ := zb_e h
      refine zr_callVi (n := 2) (As := [.int v4, .int 4]) C (c_X5_ofPiece l D cy hZ v0 v4 4 k0 I A h10) wd_364 wd_365 wd_366 wd_1 wd_367 (by decide +kernel) ⟨(Nat.le_trans (Nat.le_of_ble_eq_true rfl) hRf), (Nat.le_trans (Nat.le_of_ble_eq_true rfl) hRl)⟩ rfl rfl hRc k0 (by decide) rfl rfl rfl (Nat.le_of_ble_eq_true rfl) dL_isFair_44 ?_
      refine zr_iand C dL_isFair_47 ?_
      refine zr_if_ne (tgt := 65) C (by decide) dL_isFair_48 (fun hc12 => ?_) (fun hc12 => ?_)
      · have h := zif_f hc12 h
        refine zr_iconst (v := 0) C (by decide) dL_isFair_65 ?_
        exact zno h
      · have h := zif_t hc12 h
        refine zr_aload_n C 0 rfl rfl dL_isFair_51 ?_
        refine zr_iload C 3 rfl dL_isFair_52 ?_
        refine zr_iconst (v := 5) C (by decide) dL_isFair_54 ?_
        obtain ⟨r13, h14, h⟩ := zb_e h
        refine zr_callVi (n := 2) (As := [.int v4, .int 5]) C (c_X5_ofPiece l D cy hZ v0 v4 5 k0 I A h14) wd_364 wd_365 wd_366 wd_1 wd_367 (by decide +kernel) ⟨(Nat.le_trans (Nat.le_of_ble_eq_true rfl) hRf), (Nat.le_trans (Nat.le_of_ble_eq_true rfl) hRl)⟩ rfl rfl hRc k0 (by decide) rfl rfl rfl (Nat.le_of_ble_eq_true rfl) dL_isFair_55 ?_
        refine zr_iconst (v := 1) C (by decide) dL_isFair_58 ?_
        refine zr_iload C 3 rfl dL_isFair_59 ?_
        refine zr_ishl C dL_isFair_61 ?_
        refine zr_icmp_lt (tgt := 67) C (by decide) dL_isFair_62 (fun hc16 => ?_) (fun hc16 => ?_)
        · have h := zif_t hc16 h
          refine zr_aload_n C 0 rfl rfl dL_isFair_67 ?_
          refine zr_iload C 3 rfl dL_isFair_68 ?_
          refine zr_iconst (v := 2) C (by decide) dL_isFair_70 ?_
          obtain ⟨r17, h18, h⟩ := zb_e h
          refine zr_callVi (n := 2) (As := [.int v4, .int 2]) C (c_X5_ofPiece l D cy hZ v0 v4 2 k0 I A h18) wd_364 wd_365 wd_366 wd_1 wd_367 (by decide +kernel) ⟨(Nat.le_trans (Nat.le_of_ble_eq_true rfl) hRf), (Nat.le_trans (Nat.le_of_ble_eq_true rfl) hRl)⟩ rfl rfl hRc k0 (by decide) rfl rfl rfl (Nat.le_of_ble_eq_true rfl) dL_isFair_71 ?_
          refine zr_istore (lv' := [(5, .int r17), (0, .ref v0), (1, .long v1), (3, .int v3), (4, .int v4)]) C (by decide) rfl dL_isFair_74 ?_
          refine zr_iload C 0 rfl dL_isFair_76 ?_
          refine zr_if_lt (tgt := 113) C (by decide) dL_isFair_78 (fun hc20 => ?_) (fun hc20 => ?_)
          · have h := zif_t hc20 h
            refine zr_iconst (v := 0) C (by decide) dL_isFair_113 ?_
            refine zr_istore (lv' := [(6, .int 0), (5, .int r17), (0, .ref v0), (1, .long v1), (3, .int v3), (4, .int v4)]) C (by decide) rfl dL_isFair_114 ?_
            obtain ⟨i21, h22, h⟩ := zb_e h
            refine zr_lv (lv' := [(0, .ref v0), (1, .long v1), (3, .int v3), (4, .int v4), (6, .int 0)]) C [2, 3, 4, 5, 0] rfl ?_
            refine w_L_isFair_116 l D cy hZ C (Nat.le_trans (Nat.le_of_ble_eq_true rfl) hRf) (Nat.le_trans (Nat.le_of_ble_eq_true rfl) hRl) hRc v0 v1 v3 v4 k0 I A 2000 0 i21 h22 ?_
            refine zr_iinc (v := v4 + 1) (lv' := [(4, .int (v4 + 1)), (0, .ref v0), (1, .long v1), (3, .int v3), (6, .int i21)]) C 3 rfl rfl (by decide) rfl dL_isFair_252 ?_
            refine zr_goto (tgt := 14) C (by decide) dL_isFair_255 ?_
            obtain rfl := zso h
            refine zr_lv (lv' := [(0, .ref v0), (1, .long v1), (3, .int v3), (4, .int (v4 + 1))]) C [1, 2, 3, 0] rfl ?_
            exact hg _ rfl
          · have h := zif_f hc20 h
            refine zr_aload_n C 1 rfl rfl dL_isFair_81 ?_
            refine zr_iload C 4 rfl dL_isFair_82 ?_
            refine zr_iconst (v := 3) C (by decide) dL_isFair_84 ?_
            obtain ⟨r23, h24, h⟩ := zb_e h
            refine zr_callVi (n := 2) (As := [.int v4, .int 3]) C (c_X5_ofPiece l D cy hZ v0 v4 3 k0 I A h24) wd_364 wd_365 wd_366 wd_1 wd_367 (by decide +kernel) ⟨(Nat.le_trans (Nat.le_of_ble_eq_true rfl) hRf), (Nat.le_trans (Nat.le_of_ble_eq_true rfl) hRl)⟩ rfl rfl hRc k0 (by decide) rfl rfl rfl (Nat.le_of_ble_eq_true rfl) dL_isFair_85 ?_
            refine zr_iload C 0 rfl dL_isFair_88 ?_
            refine zr_ishr C dL_isFair_90 ?_
            refine zr_iconst (v := 1) C (by decide) dL_isFair_91 ?_
            refine zr_iand C dL_isFair_92 ?_
            refine zr_if_ne (tgt := 113) C (by decide) dL_isFair_93 (fun hc26 => ?_) (fun hc26 => ?_)
            · have h := zif_f hc26 h
              refine zr_iconst (v := 0) C (by decide) dL_isFair_113 ?_
              refine zr_istore (lv' := [(6, .int 0), (5, .int r17), (0, .ref v0), (1, .long v1), (3, .int v3), (4, .int v4)]) C (by decide) rfl dL_isFair_114 ?_
              obtain ⟨i27, h28, h⟩ := zb_e h
              refine zr_lv (lv' := [(0, .ref v0), (1, .long v1), (3, .int v3), (4, .int v4), (6, .int 0)]) C [2, 3, 4, 5, 0] rfl ?_
              refine w_L_isFair_116 l D cy hZ C (Nat.le_trans (Nat.le_of_ble_eq_true rfl) hRf) (Nat.le_trans (Nat.le_of_ble_eq_true rfl) hRl) hRc v0 v1 v3 v4 k0 I A 2000 0 i27 h28 ?_
              refine zr_iinc (v := v4 + 1) (lv' := [(4, .int (v4 + 1)), (0, .ref v0), (1, .long v1), (3, .int v3), (6, .int i27)]) C 3 rfl rfl (by decide) rfl dL_isFair_252 ?_
              refine zr_goto (tgt := 14) C (by decide) dL_isFair_255 ?_
              obtain rfl := zso h
              refine zr_lv (lv' := [(0, .ref v0), (1, .long v1), (3, .int v3), (4, .int (v4 + 1))]) C [1, 2, 3, 0] rfl ?_
              exact hg _ rfl
            · have h := zif_t hc26 h
              refine zr_aload_n C 1 rfl rfl dL_isFair_96 ?_
              refine zr_iload C 4 rfl dL_isFair_97 ?_
              refine zr_iconst (v := 4) C (by decide) dL_isFair_99 ?_
              obtain ⟨r29, h30, h⟩ := zb_e h
              refine zr_callVi (n := 2) (As := [.int v4, .int 4]) C (c_X5_ofPiece l D cy hZ v0 v4 4 k0 I A h30) wd_364 wd_365 wd_366 wd_1 wd_367 (by decide +kernel) ⟨(Nat.le_trans (Nat.le_of_ble_eq_true rfl) hRf), (Nat.le_trans (Nat.le_of_ble_eq_true rfl) hRl)⟩ rfl rfl hRc k0 (by decide) rfl rfl rfl (Nat.le_of_ble_eq_true rfl) dL_isFair_100 ?_
              refine zr_iload C 0 rfl dL_isFair_103 ?_
              refine zr_ishr C dL_isFair_105 ?_
              refine zr_iconst (v := 1) C (by decide) dL_isFair_106 ?_
              refine zr_iand C dL_isFair_107 ?_
              refine zr_if_ne (tgt := 113) C (by decide) dL_isFair_108 (fun hc32 => ?_) (fun hc32 => ?_)
              · have h := zif_f hc32 h
                refine zr_iconst (v := 0) C (by decide) dL_isFair_113 ?_
                refine zr_istore (lv' := [(6, .int 0), (5, .int r17), (0, .ref v0), (1, .long v1), (3, .int v3), (4, .int v4)]) C (by decide) rfl dL_isFair_114 ?_
                obtain ⟨i33, h34, h⟩ := zb_e h
                refine zr_lv (lv' := [(0, .ref v0), (1, .long v1), (3, .int v3), (4, .int v4), (6, .int 0)]) C [2, 3, 4, 5, 0] rfl ?_
                refine w_L_isFair_116 l D cy hZ C (Nat.le_trans (Nat.le_of_ble_eq_true rfl) hRf) (Nat.le_trans (Nat.le_of_ble_eq_true rfl) hRl) hRc v0 v1 v3 v4 k0 I A 2000 0 i33 h34 ?_
                refine zr_iinc (v := v4 + 1) (lv' := [(4, .int (v4 + 1)), (0, .ref v0), (1, .long v1), (3, .int v3), (6, .int i33)]) C 3 rfl rfl (by decide) rfl dL_isFair_252 ?_
                refine zr_goto (tgt := 14) C (by decide) dL_isFair_255 ?_
                obtain rfl := zso h
                refine zr_lv (lv' := [(0, .ref v0), (1, .long v1), (3, .int v3), (4, .int (v4 + 1))]) C [1, 2, 3, 0] rfl ?_
                exact hg _ rfl
              · have h := zif_t hc32 h
                refine zr_iconst (v := 0) C (by decide) dL_isFair_111 ?_
                exact zno h
        · have h := zif_f hc16 h
          refine zr_iconst (v := 0) C (by decide) dL_isFair_65 ?_
          exact zno h
set_option maxHeartbeats 4000000 in
set_option maxRecDepth 100000 in
theorem w_L_isFair_14 (l : Launch) (D : va_G) (cy : Nat → ClassId) {L : List Nat} {K N : Nat → Nat} {F G : Nat → Nat → Nat} (hZ : ZL L K N F G) {p : Program} {e : Env} {R : Room} {s : State} {m : MethodId} {args : Array Value} {below : List Frame} {meth : Method} {c : Code} {cells slots : Nat} {Q : State → Prop} (C : ZC p s m args meth c cL_isFair yL_isFair.cls 8 D cy L K N F G) (hRf : 4 ≤ R.frames) (hRl : 90 ≤ R.locals) (hRc : cells ≤ R.cells ∧ slots ≤ R.slots)  (v0 : Nat) (v1 : Int64) (v3 : Int32) (k0 : K v0 = 5) (I : zH) (A : zH) (n : Nat) (x : Int32) (o : Int32) (h : zIt (fun x => g_L_isFair_14 F G v0 v1 v3 x I A) n x = some o)
    (hx : ZW p l e R s m args below meth c 8 D cy L K N F G cells slots Q I A 258 [(0, .ref v0), (1, .long v1), (3, .int v3), (4, .int o)] []) : ZW p l e R s m args below meth c 8 D cy L K N F G cells slots Q I A 14 [(0, .ref v0), (1, .long v1), (3, .int v3), (4, .int x)] [] := by
  induction n generalizing x with
  | zero => cases h
  | succ n ih =>
    unfold zIt at h
    cases hb : g_L_isFair_14 F G v0 v1 v3 x I A with
    | none => rw [hb] at h; cases h
    | some q =>
      rw [hb] at h
      refine wb_L_isFair_14 l D cy hZ C hRf hRl hRc v0 v1 v3 k0 I A x q hb (fun y hy => ?_) (fun y hy => ?_)
      · subst hy; exact ih y h
      · subst hy; cases h; exact hx
set_option maxHeartbeats 4000000 in
set_option maxRecDepth 100000 in
theorem wb_L_isFair_270 (l : Launch) (D : va_G) (cy : Nat → ClassId) {L : List Nat} {K N : Nat → Nat} {F G : Nat → Nat → Nat} (hZ : ZL L K N F G) {p : Program} {e : Env} {R : Room} {s : State} {m : MethodId} {args : Array Value} {below : List Frame} {meth : Method} {c : Code} {cells slots : Nat} {Q : State → Prop} (C : ZC p s m args meth c cL_isFair yL_isFair.cls 8 D cy L K N F G) (hRf : 3 ≤ R.frames) (hRl : 67 ≤ R.locals) (hRc : cells ≤ R.cells ∧ slots ≤ R.slots)  (v0 : Nat) (v1 : Int64) (v4 : Int32) (k0 : K v0 = 5) (I : zH) (A : zH) (v5 : Int32) (o : (Int32) ⊕ (Int32)) (h : g_L_isFair_270 F G v0 v1 v4 v5 I A = some o)
    (hg : ∀ y : Int32, o = .inl y → ZW p l e R s m args below meth c 8 D cy L K N F G cells slots Q I A 270 [(0, .ref v0), (1, .long v1), (4, .int v4), (5, .int y)] [])
    (hx : ∀ y : Int32, o = .inr y → ZW p l e R s m args below meth c 8 D cy L K N F G cells slots Q I A 311 [(0, .ref v0), (1, .long v1), (4, .int v4), (5, .int y)] []) : ZW p l e R s m args below meth c 8 D cy L K N F G cells slots Q I A 270 [(0, .ref v0), (1, .long v1), (4, .int v4), (5, .int v5)] [] := by
  unfold g_L_isFair_270 at h
  refine zr_iload C 3 rfl dL_isFair_270 ?_
  refine zr_iconst (v := 4) C (by decide) dL_isFair_272 ?_
  refine zr_icmp_ge (tgt := 311) C (by decide) dL_isFair_273 (fun hc1 => ?_) (fun hc1 => ?_)
  · have h := zif_t hc1 h
    obtain rfl := zso h
    refine zr_lv (lv' := [(0, .ref v0), (1, .long v1), (4, .int v4), (5, .int v5)]) C [0, 1, 2, 3] rfl ?_
    exact hx _ rfl
  · have h := zif_f hc1 h
    refine zr_aload_n C 0 rfl rfl dL_isFair_276 ?_
    refine zr_iload C 2 rfl dL_isFair_277 ?_
    refine zr_iconst (v := 4) C (by decide) dL_isFair_279 ?_
    obtain ⟨r2, h3, h⟩ := zb_e h
    refine zr_callVi (n := 2) (As := [.int v4, .int 4]) C (c_X5_ofLicence l D cy hZ v0 v4 4 k0 I A h3) wd_432 wd_433 wd_434 wd_1 wd_435 (by decide +kernel) ⟨(Nat.le_trans (Nat.le_of_ble_eq_true rfl) hRf), (Nat.le_trans (Nat.le_of_ble_eq_true rfl) hRl)⟩ rfl rfl hRc k0 (by decide) rfl rfl rfl (Nat.le_of_ble_eq_true rfl) dL_isFair_280 ?_
    refine zr_iload C 3 rfl dL_isFair_283 ?_
    refine zr_ishr C dL_isFair_285 ?_
    refine zr_iconst (v := 1) C (by decide) dL_isFair_286 ?_
    refine zr_iand C dL_isFair_287 ?_
    refine zr_aload_n C 0 rfl rfl dL_isFair_288 ?_
    refine zr_iload C 3 rfl dL_isFair_289 ?_
    refine zr_iconst (v := 4) C (by decide) dL_isFair_291 ?_
    obtain ⟨r5, h6, h⟩ := zb_e h
    refine zr_callVi (n := 2) (As := [.int v5, .int 4]) C (c_X5_ofLicence l D cy hZ v0 v5 4 k0 I A h6) wd_432 wd_433 wd_434 wd_1 wd_435 (by decide +kernel) ⟨(Nat.le_trans (Nat.le_of_ble_eq_true rfl) hRf), (Nat.le_trans (Nat.le_of_ble_eq_true rfl) hRl)⟩ rfl rfl hRc k0 (by decide) rfl rfl rfl (Nat.le_of_ble_eq_true rfl) dL_isFair_292 ?_
    refine zr_iload C 2 rfl dL_isFair_295 ?_
    refine zr_ishr C dL_isFair_297 ?_
    refine zr_iconst (v := 1) C (by decide) dL_isFair_298 ?_
    refine zr_iand C dL_isFair_299 ?_
    refine zr_icmp_eq (tgt := 305) C (by decide) dL_isFair_300 (fun hc8 => ?_) (fun hc8 => ?_)
    · have h := zif_t hc8 h
      refine zr_iinc (v := v5 + 1) (lv' := [(5, .int (v5 + 1)), (0, .ref v0), (1, .long v1), (4, .int v4)]) C 3 rfl rfl (by decide) rfl dL_isFair_305 ?_
      refine zr_goto (tgt := 270) C (by decide) dL_isFair_308 ?_
      obtain rfl := zso h
      refine zr_lv (lv' := [(0, .ref v0), (1, .long v1), (4, .int v4), (5, .int (v5 + 1))]) C [1, 2, 3, 0] rfl ?_
      exact hg _ rfl
    · have h := zif_f hc8 h
      refine zr_iconst (v := 0) C (by decide) dL_isFair_303 ?_
      exact zno h
set_option maxHeartbeats 4000000 in
set_option maxRecDepth 100000 in
theorem w_L_isFair_270 (l : Launch) (D : va_G) (cy : Nat → ClassId) {L : List Nat} {K N : Nat → Nat} {F G : Nat → Nat → Nat} (hZ : ZL L K N F G) {p : Program} {e : Env} {R : Room} {s : State} {m : MethodId} {args : Array Value} {below : List Frame} {meth : Method} {c : Code} {cells slots : Nat} {Q : State → Prop} (C : ZC p s m args meth c cL_isFair yL_isFair.cls 8 D cy L K N F G) (hRf : 3 ≤ R.frames) (hRl : 67 ≤ R.locals) (hRc : cells ≤ R.cells ∧ slots ≤ R.slots)  (v0 : Nat) (v1 : Int64) (v4 : Int32) (k0 : K v0 = 5) (I : zH) (A : zH) (n : Nat) (x : Int32) (o : Int32) (h : zIt (fun x => g_L_isFair_270 F G v0 v1 v4 x I A) n x = some o)
    (hx : ZW p l e R s m args below meth c 8 D cy L K N F G cells slots Q I A 311 [(0, .ref v0), (1, .long v1), (4, .int v4), (5, .int o)] []) : ZW p l e R s m args below meth c 8 D cy L K N F G cells slots Q I A 270 [(0, .ref v0), (1, .long v1), (4, .int v4), (5, .int x)] [] := by
  induction n generalizing x with
  | zero => cases h
  | succ n ih =>
    unfold zIt at h
    cases hb : g_L_isFair_270 F G v0 v1 v4 x I A with
    | none => rw [hb] at h; cases h
    | some q =>
      rw [hb] at h
      refine wb_L_isFair_270 l D cy hZ C hRf hRl hRc v0 v1 v4 k0 I A x q hb (fun y hy => ?_) (fun y hy => ?_)
      · subst hy; exact ih y h
      · subst hy; cases h; exact hx
set_option maxHeartbeats 4000000 in
set_option maxRecDepth 100000 in
theorem wb_L_isFair_261 (l : Launch) (D : va_G) (cy : Nat → ClassId) {L : List Nat} {K N : Nat → Nat} {F G : Nat → Nat → Nat} (hZ : ZL L K N F G) {p : Program} {e : Env} {R : Room} {s : State} {m : MethodId} {args : Array Value} {below : List Frame} {meth : Method} {c : Code} {cells slots : Nat} {Q : State → Prop} (C : ZC p s m args meth c cL_isFair yL_isFair.cls 8 D cy L K N F G) (hRf : 3 ≤ R.frames) (hRl : 67 ≤ R.locals) (hRc : cells ≤ R.cells ∧ slots ≤ R.slots)  (v0 : Nat) (v1 : Int64) (k0 : K v0 = 5) (I : zH) (A : zH) (v4 : Int32) (o : (Int32) ⊕ (Int32)) (h : g_L_isFair_261 F G v0 v1 v4 I A = some o)
    (hg : ∀ y : Int32, o = .inl y → ZW p l e R s m args below meth c 8 D cy L K N F G cells slots Q I A 261 [(0, .ref v0), (1, .long v1), (4, .int y)] [])
    (hx : ∀ y : Int32, o = .inr y → ZW p l e R s m args below meth c 8 D cy L K N F G cells slots Q I A 317 [(0, .ref v0), (1, .long v1), (4, .int y)] []) : ZW p l e R s m args below meth c 8 D cy L K N F G cells slots Q I A 261 [(0, .ref v0), (1, .long v1), (4, .int v4)] [] := by
  unfold g_L_isFair_261 at h
  refine zr_iload C 2 rfl dL_isFair_261 ?_
  refine zr_iconst (v := 4) C (by decide) dL_isFair_263 ?_
  refine zr_icmp_ge (tgt := 317) C (by decide) dL_isFair_264 (fun hc1 => ?_) (fun hc1 => ?_)
  · have h := zif_t hc1 h
    obtain rfl := zso h
    refine zr_lv (lv' := [(0, .ref v0), (1, .long v1), (4, .int v4)]) C [0, 1, 2] rfl ?_
    exact hx _ rfl
  · have h := zif_f hc1 h
    refine zr_iconst (v := 0) C (by decide) dL_isFair_267 ?_
    refine zr_istore (lv' := [(5, .int 0), (0, .ref v0), (1, .long v1), (4, .int v4)]) C (by decide) rfl dL_isFair_268 ?_
    obtain ⟨i2, h3, h⟩ := zb_e h
    refine zr_lv (lv' := [(0, .ref v0), (1, .long v1), (4, .int v4), (5, .int 0)]) C [1, 2, 3, 0] rfl ?_
    refine w_L_isFair_270 l D cy hZ C (Nat.le_trans (Nat.le_of_ble_eq_true rfl) hRf) (Nat.le_trans (Nat.le_of_ble_eq_true rfl) hRl) hRc v0 v1 v4 k0 I A 2000 0 i2 h3 ?_
    refine zr_iinc (v := v4 + 1) (lv' := [(4, .int (v4 + 1)), (0, .ref v0), (1, .long v1), (5, .int i2)]) C 2 rfl rfl (by decide) rfl dL_isFair_311 ?_
    refine zr_goto (tgt := 261) C (by decide) dL_isFair_314 ?_
    obtain rfl := zso h
    refine zr_lv (lv' := [(0, .ref v0), (1, .long v1), (4, .int (v4 + 1))]) C [1, 2, 0] rfl ?_
    exact hg _ rfl
set_option maxHeartbeats 4000000 in
set_option maxRecDepth 100000 in
theorem w_L_isFair_261 (l : Launch) (D : va_G) (cy : Nat → ClassId) {L : List Nat} {K N : Nat → Nat} {F G : Nat → Nat → Nat} (hZ : ZL L K N F G) {p : Program} {e : Env} {R : Room} {s : State} {m : MethodId} {args : Array Value} {below : List Frame} {meth : Method} {c : Code} {cells slots : Nat} {Q : State → Prop} (C : ZC p s m args meth c cL_isFair yL_isFair.cls 8 D cy L K N F G) (hRf : 3 ≤ R.frames) (hRl : 67 ≤ R.locals) (hRc : cells ≤ R.cells ∧ slots ≤ R.slots)  (v0 : Nat) (v1 : Int64) (k0 : K v0 = 5) (I : zH) (A : zH) (n : Nat) (x : Int32) (o : Int32) (h : zIt (fun x => g_L_isFair_261 F G v0 v1 x I A) n x = some o)
    (hx : ZW p l e R s m args below meth c 8 D cy L K N F G cells slots Q I A 317 [(0, .ref v0), (1, .long v1), (4, .int o)] []) : ZW p l e R s m args below meth c 8 D cy L K N F G cells slots Q I A 261 [(0, .ref v0), (1, .long v1), (4, .int x)] [] := by
  induction n generalizing x with
  | zero => cases h
  | succ n ih =>
    unfold zIt at h
    cases hb : g_L_isFair_261 F G v0 v1 x I A with
    | none => rw [hb] at h; cases h
    | some q =>
      rw [hb] at h
      refine wb_L_isFair_261 l D cy hZ C hRf hRl hRc v0 v1 k0 I A x q hb (fun y hy => ?_) (fun y hy => ?_)
      · subst hy; exact ih y h
      · subst hy; cases h; exact hx
set_option maxHeartbeats 4000000 in
set_option maxRecDepth 100000 in
theorem wb_L_isFair_369 (l : Launch) (D : va_G) (cy : Nat → ClassId) {L : List Nat} {K N : Nat → Nat} {F G : Nat → Nat → Nat} (hZ : ZL L K N F G) {p : Program} {e : Env} {R : Room} {s : State} {m : MethodId} {args : Array Value} {below : List Frame} {meth : Method} {c : Code} {cells slots : Nat} {Q : State → Prop} (C : ZC p s m args meth c cL_isFair yL_isFair.cls 8 D cy L K N F G) (hRf : 4 ≤ R.frames) (hRl : 88 ≤ R.locals) (hRc : cells ≤ R.cells ∧ slots ≤ R.slots)  (v0 : Nat) (v1 : Int64) (v4 : Int32) (v5 : Int32) (v6 : Int32) (k0 : K v0 = 5) (I : zH) (A : zH) (v7 : Int32) (o : (Int32) ⊕ (Int32)) (h : g_L_isFair_369 F G v0 v1 v4 v5 v6 v7 I A = some o)
    (hg : ∀ y : Int32, o = .inl y → ZW p l e R s m args below meth c 8 D cy L K N F G cells slots Q I A 369 [(0, .ref v0), (1, .long v1), (4, .int v4), (5, .int v5), (6, .int v6), (7, .int y)] [])
    (hx : ∀ y : Int32, o = .inr y → ZW p l e R s m args below meth c 8 D cy L K N F G cells slots Q I A 412 [(0, .ref v0), (1, .long v1), (4, .int v4), (5, .int v5), (6, .int v6), (7, .int y)] []) : ZW p l e R s m args below meth c 8 D cy L K N F G cells slots Q I A 369 [(0, .ref v0), (1, .long v1), (4, .int v4), (5, .int v5), (6, .int v6), (7, .int v7)] [] := by
  unfold g_L_isFair_369 at h
  refine zr_iload C 5 rfl dL_isFair_369 ?_
  refine zr_bipush (v := 10) C (by decide) dL_isFair_371 ?_
  refine zr_icmp_ge (tgt := 412) C (by decide) dL_isFair_373 (fun hc1 => ?_) (fun hc1 => ?_)
  · have h := zif_t hc1 h
    obtain rfl := zso h
    refine zr_lv (lv' := [(0, .ref v0), (1, .long v1), (4, .int v4), (5, .int v5), (6, .int v6), (7, .int v7)]) C [0, 1, 2, 3, 4, 5] rfl ?_
    exact hx _ rfl
  · have h := zif_f hc1 h
    refine zr_iload C 4 rfl dL_isFair_376 ?_
    refine zr_iload C 5 rfl dL_isFair_378 ?_
    refine zr_ishr C dL_isFair_380 ?_
    refine zr_iconst (v := 1) C (by decide) dL_isFair_381 ?_
    refine zr_iand C dL_isFair_382 ?_
    refine zr_iconst (v := 1) C (by decide) dL_isFair_383 ?_
    refine zr_icmp_ne (tgt := 406) C (by decide) dL_isFair_384 (fun hc2 => ?_) (fun hc2 => ?_)
    · have h := zif_f hc2 h
      refine zr_iinc (v := v7 + 1) (lv' := [(7, .int (v7 + 1)), (0, .ref v0), (1, .long v1), (4, .int v4), (5, .int v5), (6, .int v6)]) C 5 rfl rfl (by decide) rfl dL_isFair_406 ?_
      refine zr_goto (tgt := 369) C (by decide) dL_isFair_409 ?_
      obtain rfl := zso h
      refine zr_lv (lv' := [(0, .ref v0), (1, .long v1), (4, .int v4), (5, .int v5), (6, .int v6), (7, .int (v7 + 1))]) C [1, 2, 3, 4, 5, 0] rfl ?_
      exact hg _ rfl
    · have h := zif_t hc2 h
      refine zr_aload_n C 0 rfl rfl dL_isFair_387 ?_
      refine zr_iload C 2 rfl dL_isFair_388 ?_
      refine zr_iload C 5 rfl dL_isFair_390 ?_
      refine zr_iconst (v := 3) C (by decide) dL_isFair_392 ?_
      obtain ⟨r3, h4, h⟩ := zb_e h
      refine zr_callVi (n := 3) (As := [.int v4, .int v7, .int 3]) C (c_X5_ofNode l D cy hZ v0 v4 v7 3 k0 I A h4) wd_647 wd_629 wd_630 wd_1 wd_631 (by decide +kernel) ⟨(Nat.le_trans (Nat.le_of_ble_eq_true rfl) hRf), (Nat.le_trans (Nat.le_of_ble_eq_true rfl) hRl)⟩ rfl rfl hRc k0 (by decide) rfl rfl rfl (Nat.le_of_ble_eq_true rfl) dL_isFair_393 ?_
      refine zr_iload C 3 rfl dL_isFair_396 ?_
      refine zr_ishr C dL_isFair_398 ?_
      refine zr_iconst (v := 1) C (by decide) dL_isFair_399 ?_
      refine zr_iand C dL_isFair_400 ?_
      refine zr_if_ne (tgt := 406) C (by decide) dL_isFair_401 (fun hc6 => ?_) (fun hc6 => ?_)
      · have h := zif_f hc6 h
        refine zr_iinc (v := v7 + 1) (lv' := [(7, .int (v7 + 1)), (0, .ref v0), (1, .long v1), (4, .int v4), (5, .int v5), (6, .int v6)]) C 5 rfl rfl (by decide) rfl dL_isFair_406 ?_
        refine zr_goto (tgt := 369) C (by decide) dL_isFair_409 ?_
        obtain rfl := zso h
        refine zr_lv (lv' := [(0, .ref v0), (1, .long v1), (4, .int v4), (5, .int v5), (6, .int v6), (7, .int (v7 + 1))]) C [1, 2, 3, 4, 5, 0] rfl ?_
        exact hg _ rfl
      · have h := zif_t hc6 h
        refine zr_iconst (v := 0) C (by decide) dL_isFair_404 ?_
        exact zno h
set_option maxHeartbeats 4000000 in
set_option maxRecDepth 100000 in
theorem w_L_isFair_369 (l : Launch) (D : va_G) (cy : Nat → ClassId) {L : List Nat} {K N : Nat → Nat} {F G : Nat → Nat → Nat} (hZ : ZL L K N F G) {p : Program} {e : Env} {R : Room} {s : State} {m : MethodId} {args : Array Value} {below : List Frame} {meth : Method} {c : Code} {cells slots : Nat} {Q : State → Prop} (C : ZC p s m args meth c cL_isFair yL_isFair.cls 8 D cy L K N F G) (hRf : 4 ≤ R.frames) (hRl : 88 ≤ R.locals) (hRc : cells ≤ R.cells ∧ slots ≤ R.slots)  (v0 : Nat) (v1 : Int64) (v4 : Int32) (v5 : Int32) (v6 : Int32) (k0 : K v0 = 5) (I : zH) (A : zH) (n : Nat) (x : Int32) (o : Int32) (h : zIt (fun x => g_L_isFair_369 F G v0 v1 v4 v5 v6 x I A) n x = some o)
    (hx : ZW p l e R s m args below meth c 8 D cy L K N F G cells slots Q I A 412 [(0, .ref v0), (1, .long v1), (4, .int v4), (5, .int v5), (6, .int v6), (7, .int o)] []) : ZW p l e R s m args below meth c 8 D cy L K N F G cells slots Q I A 369 [(0, .ref v0), (1, .long v1), (4, .int v4), (5, .int v5), (6, .int v6), (7, .int x)] [] := by
  induction n generalizing x with
  | zero => cases h
  | succ n ih =>
    unfold zIt at h
    cases hb : g_L_isFair_369 F G v0 v1 v4 v5 v6 x I A with
    | none => rw [hb] at h; cases h
    | some q =>
      rw [hb] at h
      refine wb_L_isFair_369 l D cy hZ C hRf hRl hRc v0 v1 v4 v5 v6 k0 I A x q hb (fun y hy => ?_) (fun y hy => ?_)
      · subst hy; exact ih y h
      · subst hy; cases h; exact hx
set_option maxHeartbeats 4000000 in
set_option maxRecDepth 100000 in
theorem wb_L_isFair_329 (l : Launch) (D : va_G) (cy : Nat → ClassId) {L : List Nat} {K N : Nat → Nat} {F G : Nat → Nat → Nat} (hZ : ZL L K N F G) {p : Program} {e : Env} {R : Room} {s : State} {m : MethodId} {args : Array Value} {below : List Frame} {meth : Method} {c : Code} {cells slots : Nat} {Q : State → Prop} (C : ZC p s m args meth c cL_isFair yL_isFair.cls 8 D cy L K N F G) (hRf : 4 ≤ R.frames) (hRl : 100 ≤ R.locals) (hRc : cells ≤ R.cells ∧ slots ≤ R.slots)  (v0 : Nat) (v1 : Int64) (v4 : Int32) (k0 : K v0 = 5) (I : zH) (A : zH) (v5 : Int32) (o : (Int32) ⊕ (Int32)) (h : g_L_isFair_329 F G v0 v1 v4 v5 I A = some o)
    (hg : ∀ y : Int32, o = .inl y → ZW p l e R s m args below meth c 8 D cy L K N F G cells slots Q I A 329 [(0, .ref v0), (1, .long v1), (4, .int v4), (5, .int y)] [])
    (hx : ∀ y : Int32, o = .inr y → ZW p l e R s m args below meth c 8 D cy L K N F G cells slots Q I A 469 [(0, .ref v0), (1, .long v1), (4, .int v4), (5, .int y)] []) : ZW p l e R s m args below meth c 8 D cy L K N F G cells slots Q I A 329 [(0, .ref v0), (1, .long v1), (4, .int v4), (5, .int v5)] [] := by
  unfold g_L_isFair_329 at h
  refine zr_iload C 3 rfl dL_isFair_329 ?_
  refine zr_bipush (v := 10) C (by decide) dL_isFair_331 ?_
  refine zr_icmp_ge (tgt := 469) C (by decide) dL_isFair_333 (fun hc1 => ?_) (fun hc1 => ?_)
  · have h := zif_t hc1 h
    obtain rfl := zso h
    refine zr_lv (lv' := [(0, .ref v0), (1, .long v1), (4, .int v4), (5, .int v5)]) C [0, 1, 2, 3] rfl ?_
    exact hx _ rfl
  · have h := zif_f hc1 h
    refine zr_aload_n C 0 rfl rfl dL_isFair_336 ?_
    refine zr_iload C 2 rfl dL_isFair_337 ?_
    refine zr_bipush (v := 6) C (by decide) dL_isFair_339 ?_
    obtain ⟨r2, h3, h⟩ := zb_e h
    refine zr_callVi (n := 2) (As := [.int v4, .int 6]) C (c_X5_ofProject l D cy hZ v0 v4 6 k0 I A h3) wd_499 wd_500 wd_501 wd_1 wd_502 (by decide +kernel) ⟨(Nat.le_trans (Nat.le_of_ble_eq_true rfl) hRf), (Nat.le_trans (Nat.le_of_ble_eq_true rfl) hRl)⟩ rfl rfl hRc k0 (by decide) rfl rfl rfl (Nat.le_of_ble_eq_true rfl) dL_isFair_341 ?_
    refine zr_iload C 3 rfl dL_isFair_344 ?_
    refine zr_ishr C dL_isFair_346 ?_
    refine zr_iconst (v := 1) C (by decide) dL_isFair_347 ?_
    refine zr_iand C dL_isFair_348 ?_
    refine zr_if_ne (tgt := 355) C (by decide) dL_isFair_349 (fun hc5 => ?_) (fun hc5 => ?_)
    · have h := zif_f hc5 h
      refine zr_aload_n C 0 rfl rfl dL_isFair_355 ?_
      refine zr_iload C 2 rfl dL_isFair_356 ?_
      refine zr_iload C 3 rfl dL_isFair_358 ?_
      refine zr_iconst (v := 3) C (by decide) dL_isFair_360 ?_
      obtain ⟨r6, h7, h⟩ := zb_e h
      refine zr_callVi (n := 3) (As := [.int v4, .int v5, .int 3]) C (c_X5_ofNode l D cy hZ v0 v4 v5 3 k0 I A h7) wd_647 wd_629 wd_630 wd_1 wd_631 (by decide +kernel) ⟨(Nat.le_trans (Nat.le_of_ble_eq_true rfl) hRf), (Nat.le_trans (Nat.le_of_ble_eq_true rfl) hRl)⟩ rfl rfl hRc k0 (by decide) rfl rfl rfl (Nat.le_of_ble_eq_true rfl) dL_isFair_361 ?_
      refine zr_istore (lv' := [(6, .int r6), (0, .ref v0), (1, .long v1), (4, .int v4), (5, .int v5)]) C (by decide) rfl dL_isFair_364 ?_
      refine zr_iconst (v := 0) C (by decide) dL_isFair_366 ?_
      refine zr_istore (lv' := [(7, .int 0), (6, .int r6), (0, .ref v0), (1, .long v1), (4, .int v4), (5, .int v5)]) C (by decide) rfl dL_isFair_367 ?_
      obtain ⟨i9, h25, h⟩ := zb_e h
      refine zr_lv (lv' := [(0, .ref v0), (1, .long v1), (4, .int v4), (5, .int v5), (6, .int r6), (7, .int 0)]) C [2, 3, 4, 5, 1, 0] rfl ?_
      refine w_L_isFair_369 l D cy hZ C (Nat.le_trans (Nat.le_of_ble_eq_true rfl) hRf) (Nat.le_trans (Nat.le_of_ble_eq_true rfl) hRl) hRc v0 v1 v4 v5 r6 k0 I A 2000 0 i9 h25 ?_
      refine zr_aload_n C 0 rfl rfl dL_isFair_412 ?_
      refine zr_iload C 2 rfl dL_isFair_413 ?_
      refine zr_iload C 3 rfl dL_isFair_415 ?_
      obtain ⟨r10, h11, h⟩ := zb_e h
      refine zr_callVi (n := 2) (As := [.int v4, .int v5]) C (c_X5_substitute l D cy hZ v0 v4 v5 k0 I A h11) wd_648 wd_635 wd_636 wd_1 wd_637 (by decide +kernel) ⟨(Nat.le_trans (Nat.le_of_ble_eq_true rfl) hRf), (Nat.le_trans (Nat.le_of_ble_eq_true rfl) hRl)⟩ rfl rfl hRc k0 (by decide) rfl rfl rfl (Nat.le_of_ble_eq_true rfl) dL_isFair_417 ?_
      refine zr_istore (lv' := [(7, .int r10), (0, .ref v0), (1, .long v1), (4, .int v4), (5, .int v5), (6, .int r6)]) C (by decide) rfl dL_isFair_420 ?_
      refine zr_iload C 0 rfl dL_isFair_422 ?_
      refine zr_if_lt (tgt := 463) C (by decide) dL_isFair_424 (fun hc13 => ?_) (fun hc13 => ?_)
      · have h := zif_t hc13 h
        refine zr_iinc (v := v5 + 1) (lv' := [(5, .int (v5 + 1)), (7, .int r10), (0, .ref v0), (1, .long v1), (4, .int v4), (6, .int r6)]) C 4 rfl rfl (by decide) rfl dL_isFair_463 ?_
        refine zr_goto (tgt := 329) C (by decide) dL_isFair_466 ?_
        obtain rfl := zso h
        refine zr_lv (lv' := [(0, .ref v0), (1, .long v1), (4, .int v4), (5, .int (v5 + 1))]) C [2, 3, 4, 0] rfl ?_
        exact hg _ rfl
      · have h := zif_f hc13 h
        refine zr_iload C 0 rfl dL_isFair_427 ?_
        refine zr_aload_n C 1 rfl rfl dL_isFair_429 ?_
        refine zr_iload C 3 rfl dL_isFair_430 ?_
        refine zr_iload C 4 rfl dL_isFair_432 ?_
        refine zr_iconst (v := 1) C (by decide) dL_isFair_434 ?_
        obtain ⟨r14, h15, h⟩ := zb_e h
        refine zr_callVi (n := 3) (As := [.int v4, .int v5, .int 1]) C (c_X5_ofNode l D cy hZ v0 v4 v5 1 k0 I A h15) wd_647 wd_629 wd_630 wd_1 wd_631 (by decide +kernel) ⟨(Nat.le_trans (Nat.le_of_ble_eq_true rfl) hRf), (Nat.le_trans (Nat.le_of_ble_eq_true rfl) hRl)⟩ rfl rfl hRc k0 (by decide) rfl rfl rfl (Nat.le_of_ble_eq_true rfl) dL_isFair_435 ?_
        refine zr_icmp_eq (tgt := 461) C (by decide) dL_isFair_438 (fun hc17 => ?_) (fun hc17 => ?_)
        · have h := zif_t hc17 h
          refine zr_iconst (v := 0) C (by decide) dL_isFair_461 ?_
          exact zno h
        · have h := zif_f hc17 h
          refine zr_aload_n C 1 rfl rfl dL_isFair_441 ?_
          refine zr_iload C 3 rfl dL_isFair_442 ?_
          refine zr_iload C 4 rfl dL_isFair_444 ?_
          refine zr_iload C 0 rfl dL_isFair_446 ?_
          obtain ⟨r18, h19, h⟩ := zb_e h
          refine zr_callVi (n := 3) (As := [.int v4, .int v5, .int r10]) C (c_X5_clashesWith l D cy hZ v0 v4 v5 r10 k0 I A h19) wd_649 wd_650 wd_651 wd_1 wd_652 (by decide +kernel) ⟨(Nat.le_trans (Nat.le_of_ble_eq_true rfl) hRf), (Nat.le_trans (Nat.le_of_ble_eq_true rfl) hRl)⟩ rfl rfl hRc k0 (by decide) rfl rfl rfl (Nat.le_of_ble_eq_true rfl) dL_isFair_448 ?_
          refine zr_aload_n C 1 rfl rfl dL_isFair_451 ?_
          refine zr_iload C 3 rfl dL_isFair_452 ?_
          refine zr_iconst (v := 2) C (by decide) dL_isFair_454 ?_
          obtain ⟨r21, h22, h⟩ := zb_e h
          refine zr_callVi (n := 2) (As := [.int v4, .int 2]) C (c_X5_ofProject l D cy hZ v0 v4 2 k0 I A h22) wd_499 wd_500 wd_501 wd_1 wd_502 (by decide +kernel) ⟨(Nat.le_trans (Nat.le_of_ble_eq_true rfl) hRf), (Nat.le_trans (Nat.le_of_ble_eq_true rfl) hRl)⟩ rfl rfl hRc k0 (by decide) rfl rfl rfl (Nat.le_of_ble_eq_true rfl) dL_isFair_455 ?_
          refine zr_icmp_le (tgt := 463) C (by decide) dL_isFair_458 (fun hc24 => ?_) (fun hc24 => ?_)
          · have h := zif_t hc24 h
            refine zr_iinc (v := v5 + 1) (lv' := [(5, .int (v5 + 1)), (7, .int r10), (0, .ref v0), (1, .long v1), (4, .int v4), (6, .int r6)]) C 4 rfl rfl (by decide) rfl dL_isFair_463 ?_
            refine zr_goto (tgt := 329) C (by decide) dL_isFair_466 ?_
            obtain rfl := zso h
            refine zr_lv (lv' := [(0, .ref v0), (1, .long v1), (4, .int v4), (5, .int (v5 + 1))]) C [2, 3, 4, 0] rfl ?_
            exact hg _ rfl
          · have h := zif_f hc24 h
            refine zr_iconst (v := 0) C (by decide) dL_isFair_461 ?_
            exact zno h
    · have h := zif_t hc5 h
      refine zr_goto (tgt := 463) C (by decide) dL_isFair_352 ?_
      refine zr_iinc (v := v5 + 1) (lv' := [(5, .int (v5 + 1)), (0, .ref v0), (1, .long v1), (4, .int v4)]) C 3 rfl rfl (by decide) rfl dL_isFair_463 ?_
      refine zr_goto (tgt := 329) C (by decide) dL_isFair_466 ?_
      obtain rfl := zso h
      refine zr_lv (lv' := [(0, .ref v0), (1, .long v1), (4, .int v4), (5, .int (v5 + 1))]) C [1, 2, 3, 0] rfl ?_
      exact hg _ rfl
set_option maxHeartbeats 4000000 in
set_option maxRecDepth 100000 in
theorem w_L_isFair_329 (l : Launch) (D : va_G) (cy : Nat → ClassId) {L : List Nat} {K N : Nat → Nat} {F G : Nat → Nat → Nat} (hZ : ZL L K N F G) {p : Program} {e : Env} {R : Room} {s : State} {m : MethodId} {args : Array Value} {below : List Frame} {meth : Method} {c : Code} {cells slots : Nat} {Q : State → Prop} (C : ZC p s m args meth c cL_isFair yL_isFair.cls 8 D cy L K N F G) (hRf : 4 ≤ R.frames) (hRl : 100 ≤ R.locals) (hRc : cells ≤ R.cells ∧ slots ≤ R.slots)  (v0 : Nat) (v1 : Int64) (v4 : Int32) (k0 : K v0 = 5) (I : zH) (A : zH) (n : Nat) (x : Int32) (o : Int32) (h : zIt (fun x => g_L_isFair_329 F G v0 v1 v4 x I A) n x = some o)
    (hx : ZW p l e R s m args below meth c 8 D cy L K N F G cells slots Q I A 469 [(0, .ref v0), (1, .long v1), (4, .int v4), (5, .int o)] []) : ZW p l e R s m args below meth c 8 D cy L K N F G cells slots Q I A 329 [(0, .ref v0), (1, .long v1), (4, .int v4), (5, .int x)] [] := by
  induction n generalizing x with
  | zero => cases h
  | succ n ih =>
    unfold zIt at h
    cases hb : g_L_isFair_329 F G v0 v1 v4 x I A with
    | none => rw [hb] at h; cases h
    | some q =>
      rw [hb] at h
      refine wb_L_isFair_329 l D cy hZ C hRf hRl hRc v0 v1 v4 k0 I A x q hb (fun y hy => ?_) (fun y hy => ?_)
      · subst hy; exact ih y h
      · subst hy; cases h; exact hx
set_option maxHeartbeats 4000000 in
set_option maxRecDepth 100000 in
theorem wb_L_isFair_320 (l : Launch) (D : va_G) (cy : Nat → ClassId) {L : List Nat} {K N : Nat → Nat} {F G : Nat → Nat → Nat} (hZ : ZL L K N F G) {p : Program} {e : Env} {R : Room} {s : State} {m : MethodId} {args : Array Value} {below : List Frame} {meth : Method} {c : Code} {cells slots : Nat} {Q : State → Prop} (C : ZC p s m args meth c cL_isFair yL_isFair.cls 8 D cy L K N F G) (hRf : 4 ≤ R.frames) (hRl : 100 ≤ R.locals) (hRc : cells ≤ R.cells ∧ slots ≤ R.slots)  (v0 : Nat) (v1 : Int64) (k0 : K v0 = 5) (I : zH) (A : zH) (v4 : Int32) (o : (Int32) ⊕ (Int32)) (h : g_L_isFair_320 F G v0 v1 v4 I A = some o)
    (hg : ∀ y : Int32, o = .inl y → ZW p l e R s m args below meth c 8 D cy L K N F G cells slots Q I A 320 [(0, .ref v0), (1, .long v1), (4, .int y)] [])
    (hx : ∀ y : Int32, o = .inr y → ZW p l e R s m args below meth c 8 D cy L K N F G cells slots Q I A 475 [(0, .ref v0), (1, .long v1), (4, .int y)] []) : ZW p l e R s m args below meth c 8 D cy L K N F G cells slots Q I A 320 [(0, .ref v0), (1, .long v1), (4, .int v4)] [] := by
  unfold g_L_isFair_320 at h
  refine zr_iload C 2 rfl dL_isFair_320 ?_
  refine zr_iconst (v := 2) C (by decide) dL_isFair_322 ?_
  refine zr_icmp_ge (tgt := 475) C (by decide) dL_isFair_323 (fun hc1 => ?_) (fun hc1 => ?_)
  · have h := zif_t hc1 h
    obtain rfl := zso h
    refine zr_lv (lv' := [(0, .ref v0), (1, .long v1), (4, .int v4)]) C [0, 1, 2] rfl ?_
    exact hx _ rfl
  · have h := zif_f hc1 h
    refine zr_iconst (v := 0) C (by decide) dL_isFair_326 ?_
    refine zr_istore (lv' := [(5, .int 0), (0, .ref v0), (1, .long v1), (4, .int v4)]) C (by decide) rfl dL_isFair_327 ?_
    obtain ⟨i2, h3, h⟩ := zb_e h
    refine zr_lv (lv' := [(0, .ref v0), (1, .long v1), (4, .int v4), (5, .int 0)]) C [1, 2, 3, 0] rfl ?_
    refine w_L_isFair_329 l D cy hZ C (Nat.le_trans (Nat.le_of_ble_eq_true rfl) hRf) (Nat.le_trans (Nat.le_of_ble_eq_true rfl) hRl) hRc v0 v1 v4 k0 I A 2000 0 i2 h3 ?_
    refine zr_iinc (v := v4 + 1) (lv' := [(4, .int (v4 + 1)), (0, .ref v0), (1, .long v1), (5, .int i2)]) C 2 rfl rfl (by decide) rfl dL_isFair_469 ?_
    refine zr_goto (tgt := 320) C (by decide) dL_isFair_472 ?_
    obtain rfl := zso h
    refine zr_lv (lv' := [(0, .ref v0), (1, .long v1), (4, .int (v4 + 1))]) C [1, 2, 0] rfl ?_
    exact hg _ rfl
set_option maxHeartbeats 4000000 in
set_option maxRecDepth 100000 in
theorem w_L_isFair_320 (l : Launch) (D : va_G) (cy : Nat → ClassId) {L : List Nat} {K N : Nat → Nat} {F G : Nat → Nat → Nat} (hZ : ZL L K N F G) {p : Program} {e : Env} {R : Room} {s : State} {m : MethodId} {args : Array Value} {below : List Frame} {meth : Method} {c : Code} {cells slots : Nat} {Q : State → Prop} (C : ZC p s m args meth c cL_isFair yL_isFair.cls 8 D cy L K N F G) (hRf : 4 ≤ R.frames) (hRl : 100 ≤ R.locals) (hRc : cells ≤ R.cells ∧ slots ≤ R.slots)  (v0 : Nat) (v1 : Int64) (k0 : K v0 = 5) (I : zH) (A : zH) (n : Nat) (x : Int32) (o : Int32) (h : zIt (fun x => g_L_isFair_320 F G v0 v1 x I A) n x = some o)
    (hx : ZW p l e R s m args below meth c 8 D cy L K N F G cells slots Q I A 475 [(0, .ref v0), (1, .long v1), (4, .int o)] []) : ZW p l e R s m args below meth c 8 D cy L K N F G cells slots Q I A 320 [(0, .ref v0), (1, .long v1), (4, .int x)] [] := by
  induction n generalizing x with
  | zero => cases h
  | succ n ih =>
    unfold zIt at h
    cases hb : g_L_isFair_320 F G v0 v1 x I A with
    | none => rw [hb] at h; cases h
    | some q =>
      rw [hb] at h
      refine wb_L_isFair_320 l D cy hZ C hRf hRl hRc v0 v1 k0 I A x q hb (fun y hy => ?_) (fun y hy => ?_)
      · subst hy; exact ih y h
      · subst hy; cases h; exact hx
set_option maxHeartbeats 4000000 in
set_option maxRecDepth 100000 in
theorem c_L_isFair (l : Launch) (D : va_G) (cy : Nat → ClassId) {L : List Nat} {K N : Nat → Nat} {F G : Nat → Nat → Nat} (hZ : ZL L K N F G) (r0 : Nat) (k_r0 : K r0 = 5) (I A : zH) {r : Int32} {B' : zH} (h : f_L_isFair F G r0 I A = some (r, B')) : ZMi l yL_isFair cL_isFair 8 (some .boolean) { frames := 7, cells := 0, slots := 0, locals := 168 } D cy L K N F G [.ref r0] I A r I B' := by
  refine ZMi.of (nL := 8) hZ rfl rfl (by decide) (Nat.le_of_ble_eq_true rfl) (fun p e s m args below meth c C hr => ?_)
  unfold f_L_isFair at h
  refine zr_lv (lv' := [(0, .ref r0)]) C [0] rfl ?_
  refine zr_aload_n C 0 rfl rfl dL_isFair_0 ?_
  obtain ⟨r1, A2, h3, h⟩ := zb2_e h
  refine zr_callVl (n := 0) (As := []) C (c_X5_digest l D cy hZ r0 k_r0 I A h3) wd_593 wd_594 wd_595 wd_1 wd_596 (by decide +kernel) ⟨(Nat.le_of_ble_eq_true rfl), (Nat.le_of_ble_eq_true rfl)⟩ rfl rfl ⟨Nat.le_of_ble_eq_true rfl, Nat.le_of_ble_eq_true rfl⟩ k_r0 (by decide) rfl rfl rfl (Nat.le_of_ble_eq_true rfl) dL_isFair_1 ?_
  refine zr_lstore_n (lv' := [(1, .long r1), (0, .ref r0)]) C rfl (by decide) rfl dL_isFair_4 ?_
  refine zr_aload_n C 1 rfl rfl dL_isFair_5 ?_
  refine zr_iconst (v := 1) C (by decide) dL_isFair_6 ?_
  obtain ⟨r5, h6, h⟩ := zb_e h
  refine zr_callVi (n := 1) (As := [.int 1]) C (c_X5_many l D cy hZ r0 1 k_r0 I A2 h6) wd_507 wd_508 wd_509 wd_1 wd_510 (by decide +kernel) ⟨(Nat.le_of_ble_eq_true rfl), (Nat.le_of_ble_eq_true rfl)⟩ rfl rfl ⟨Nat.le_of_ble_eq_true rfl, Nat.le_of_ble_eq_true rfl⟩ k_r0 (by decide) rfl rfl rfl (Nat.le_of_ble_eq_true rfl) dL_isFair_7 ?_
  refine zr_istore_n (lv' := [(3, .int r5), (1, .long r1), (0, .ref r0)]) C rfl (by decide) rfl dL_isFair_10 ?_
  refine zr_iconst (v := 0) C (by decide) dL_isFair_11 ?_
  refine zr_istore (lv' := [(4, .int 0), (3, .int r5), (1, .long r1), (0, .ref r0)]) C (by decide) rfl dL_isFair_12 ?_
  obtain ⟨i8, h26, h⟩ := zb_e h
  refine zr_lv (lv' := [(0, .ref r0), (1, .long r1), (3, .int r5), (4, .int 0)]) C [3, 2, 1, 0] rfl ?_
  refine w_L_isFair_14 l D cy hZ C (Nat.le_of_ble_eq_true rfl) (Nat.le_of_ble_eq_true rfl) ⟨Nat.le_of_ble_eq_true rfl, Nat.le_of_ble_eq_true rfl⟩ r0 r1 r5 k_r0 I A2 2000 0 i8 h26 ?_
  refine zr_iconst (v := 0) C (by decide) dL_isFair_258 ?_
  refine zr_istore (lv' := [(4, .int 0), (0, .ref r0), (1, .long r1), (3, .int r5)]) C (by decide) rfl dL_isFair_259 ?_
  obtain ⟨i9, h25, h⟩ := zb_e h
  refine zr_lv (lv' := [(0, .ref r0), (1, .long r1), (4, .int 0)]) C [1, 2, 0] rfl ?_
  refine w_L_isFair_261 l D cy hZ C (Nat.le_of_ble_eq_true rfl) (Nat.le_of_ble_eq_true rfl) ⟨Nat.le_of_ble_eq_true rfl, Nat.le_of_ble_eq_true rfl⟩ r0 r1 k_r0 I A2 2000 0 i9 h25 ?_
  refine zr_iconst (v := 0) C (by decide) dL_isFair_317 ?_
  refine zr_istore (lv' := [(4, .int 0), (0, .ref r0), (1, .long r1)]) C (by decide) rfl dL_isFair_318 ?_
  obtain ⟨i10, h24, h⟩ := zb_e h
  refine zr_lv (lv' := [(0, .ref r0), (1, .long r1), (4, .int 0)]) C [1, 2, 0] rfl ?_
  refine w_L_isFair_320 l D cy hZ C (Nat.le_of_ble_eq_true rfl) (Nat.le_of_ble_eq_true rfl) ⟨Nat.le_of_ble_eq_true rfl, Nat.le_of_ble_eq_true rfl⟩ r0 r1 k_r0 I A2 2000 0 i10 h24 ?_
  refine zr_aload_n C 0 rfl rfl dL_isFair_475 ?_
  refine zr_aload_n C 0 rfl rfl dL_isFair_476 ?_
  refine zr_bipush (v := 10) C (by decide) dL_isFair_477 ?_
  obtain ⟨r11, h12, h⟩ := zb_e h
  refine zr_callVi (n := 1) (As := [.int 10]) C (c_X5_many l D cy hZ r0 10 k_r0 I A2 h12) wd_507 wd_508 wd_509 wd_1 wd_510 (by decide +kernel) ⟨(Nat.le_of_ble_eq_true rfl), (Nat.le_of_ble_eq_true rfl)⟩ rfl rfl ⟨Nat.le_of_ble_eq_true rfl, Nat.le_of_ble_eq_true rfl⟩ k_r0 (by decide) rfl rfl rfl (Nat.le_of_ble_eq_true rfl) dL_isFair_479 ?_
  obtain ⟨r14, A15, h16, h⟩ := zb2_e h
  refine zr_callVi (n := 1) (As := [.int r11]) C (c_X5_boundWith l D cy hZ r0 r11 k_r0 I A2 h16) wd_653 wd_639 wd_640 wd_1 wd_641 (by decide +kernel) ⟨(Nat.le_of_ble_eq_true rfl), (Nat.le_of_ble_eq_true rfl)⟩ rfl rfl ⟨Nat.le_of_ble_eq_true rfl, Nat.le_of_ble_eq_true rfl⟩ k_r0 (by decide) rfl rfl rfl (Nat.le_of_ble_eq_true rfl) dL_isFair_482 ?_
  refine zr_if_ne (tgt := 501) C (by decide) dL_isFair_485 (fun hc18 => ?_) (fun hc18 => ?_)
  · have h := zif_f hc18 h
    refine zr_iconst (v := 0) C (by decide) dL_isFair_501 ?_
    exact zno h
  · have h := zif_t hc18 h
    refine zr_aload_n C 0 rfl rfl dL_isFair_488 ?_
    obtain ⟨r19, A20, h21, h⟩ := zb2_e h
    refine zr_callVl (n := 0) (As := []) C (c_X5_digest l D cy hZ r0 k_r0 I A15 h21) wd_593 wd_594 wd_595 wd_1 wd_596 (by decide +kernel) ⟨(Nat.le_of_ble_eq_true rfl), (Nat.le_of_ble_eq_true rfl)⟩ rfl rfl ⟨Nat.le_of_ble_eq_true rfl, Nat.le_of_ble_eq_true rfl⟩ k_r0 (by decide) rfl rfl rfl (Nat.le_of_ble_eq_true rfl) dL_isFair_489 ?_
    refine zr_lload_n C 1 rfl rfl dL_isFair_492 ?_
    refine zr_lcmp C dL_isFair_493 ?_
    refine zr_if_ne (tgt := 501) C (by decide) dL_isFair_494 (fun hc23 => ?_) (fun hc23 => ?_)
    · have h := zif_f hc23 h
      refine zr_iconst (v := 0) C (by decide) dL_isFair_501 ?_
      exact zno h
    · have h := zif_t hc23 h
      refine zr_iconst (v := 1) C (by decide) dL_isFair_497 ?_
      refine zr_goto (tgt := 502) C (by decide) dL_isFair_498 ?_
      cases zso h
      exact zr_zret C hr rfl dL_isFair_502

