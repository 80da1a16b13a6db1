/-! a round of the law -/
section ZRO
variable {F G : Nat → Nat → Nat} {I A : zH} {b n : Nat} {ix : Nat → Nat}
/-- a round's good end -/
def rEnd (F G : Nat → Nat → Nat) (b : Nat) (v2 : Int32) (o : Option ((Int32 × zH × zH) ⊕ (Int32 × zH × zH))) : Prop := ∃ n I' A', o = some (.inl (v2 + 1, I', A')) ∧ Inv F G b n I' A'
theorem s_670 {Ln : Nat} {xs : Nat → Int32} {v2 : Int32} (h : Inv F G b n I A) : rEnd F G b v2 (j_L_law_670 F G Ln xs b v2 I A) := ⟨n, I, A, s_673 h, h⟩
theorem rEnd.by {v2 : Int32} {o o' : Option ((Int32 × zH × zH) ⊕ (Int32 × zH × zH))} (e : o = o') (h : rEnd F G b v2 o') : rEnd F G b v2 o := e ▸ h
theorem s_264 (ad : AD F G b ix) (h : Inv F G b n I A) {Ln : Nat} {xs : Nat → Int32} {v2 v3 v5 : Int32} (hq : v5 = -1 ∨ ∃ i, i < n ∧ v5 = i32 i) : rEnd F G b v2 (j_L_law_264 F G Ln xs b v2 v3 (i32 n) v5 I A) := by
  have hn := h.n16
  unfold j_L_law_264
  by_cases h16 : n = 16
  · subst h16
    exact rEnd.by (if_pos rfl) (s_670 h)
  · obtain ⟨m, I1, A1, e1, h1, d1, m4, m12⟩ := s_isWritten ad h (q := v5) (x := v3 >>> (3 &&& 31)) hq
    obtain ⟨I2, A2, e2, h2⟩ := s_keep ad h1 (by omega) m4 m12 d1
    have hne : ¬ i32 n = 16 := fun q => h16 ((i32_inj (b := 16) (by omega) (by decide)).mp q)
    exact rEnd.by ((if_neg hne).trans ((zb3_s e1).trans ((if_neg (by decide)).trans ((zb3_s e2).trans (if_pos rfl))))) (s_670 h2)
theorem s_many1 (h : Inv F G b n I A) : f_X5_many F G b 1 I A = some (i32 n) := by
  unfold f_X5_many
  exact (if_neg (by decide)).trans ((if_pos rfl).trans (by rw [h.i8]))
theorem s_186 (ad : AD F G b ix) (h : Inv F G b n I A) {Ln : Nat} {xs : Nat → Int32} {v2 v3 v5 : Int32} (hq : (n = 0 ∧ v5 = -1) ∨ ∃ i, i < n ∧ v5 = i32 i) : rEnd F G b v2 (j_L_law_186 F G Ln xs b v2 v3 (i32 n) v5 I A) := by
  have hn := h.n16
  have hq2 : v5 = -1 ∨ ∃ i, i < n ∧ v5 = i32 i := hq.imp (fun q => q.2) id
  unfold j_L_law_186
  obtain ⟨p, hp, ep⟩ := s_below (F := F) (G := G) (I := I) (A := A) (v3 >>> (2 &&& 31)) (m := 2) (by decide) (by decide)
  obtain ⟨l, hl, el⟩ := s_below (F := F) (G := G) (I := I) (A := A) (v3 >>> (6 &&& 31)) (m := 4) (by decide) (by decide)
  refine rEnd.by ((zb_s ep).trans (zb_s el)) ?_
  by_cases h3 : 3 ≤ n
  · refine rEnd.by (if_pos (le_t (n := 3) h3 (by omega))) ?_
    obtain ⟨c, hc, ec⟩ := s_below (F := F) (G := G) (I := I) (A := A) v3 (m := 8) (by decide) (by decide)
    refine rEnd.by (zb_s ec) ?_
    obtain ⟨i, hi, rfl⟩ : ∃ i, i < n ∧ v5 = i32 i := by
      rcases hq with ⟨q, -⟩ | q
      · omega
      · exact q
    match c, hc with
    | 0, _ => exact rEnd.by (if_pos rfl) (s_264 ad h hq2)
    | 1, _ => exact rEnd.by ((if_neg (by decide)).trans (if_pos rfl)) (s_264 ad h hq2)
    | 2, _ =>
      refine rEnd.by ((if_neg (by decide)).trans ((if_neg (by decide)).trans (if_pos rfl))) ?_
      obtain ⟨r, A1, I2, A2, e1, h1, e2, h2, s7, o2⟩ := s_case2 ad h hi hl
      refine rEnd.by ((zb2_s e1).trans ((zb_s (s_of5 h1 (p := 0) (by decide))).trans ((zb_s (s_of5 h1 (p := 1) (by decide))).trans ((zb3_s e2).trans ((zb_s (s_bc _)).trans ((if_pos rfl).trans ((zb_s (s_of5 h2 (p := 0) (by decide))).trans ((zb_s (s_of5 h2 (p := 1) (by decide))).trans ((zb_s (s_bc _)).trans ((if_pos s7).trans ((zb_s (s_op2 h2 hi)).trans (if_pos o2)))))))))))) (s_670 h2)
    | 3, _ =>
      refine rEnd.by ((if_neg (by decide)).trans ((if_neg (by decide)).trans ((if_neg (by decide)).trans (if_pos rfl)))) ?_
      refine rEnd.by (zb_s (s_op3 h hi)) ?_
      cases hb1 : hb (A (F (F b 6) 0) i) l with
      | false => exact rEnd.by (if_pos ((hb_f (by omega)).mpr hb1)) (s_670 h)
      | true =>
        refine rEnd.by ((if_neg (fun q => by rw [(hb_f (by omega)).mp q] at hb1; cases hb1)).trans (zb_s (s_ol3 h hl))) ?_
        rcases s_ask ad h hi hl hb1 with ⟨z, e⟩ | ⟨z, I2, A2, e, h2, hb2⟩
        · exact rEnd.by ((zb3_s e).trans ((if_pos z).trans ((if_pos rfl).trans (if_pos z)))) (s_670 h)
        · refine rEnd.by ((zb3_s e).trans ((if_neg z).trans ((if_pos rfl).trans ((if_neg z).trans ((zb_s (s_op3 h2 hi)).trans (if_neg ?_)))))) (s_670 h2)
          intro q
          rw [(hb_t (by omega)).mp q] at hb2
          cases hb2
    | 4, _ =>
      refine rEnd.by ((if_neg (by decide)).trans ((if_neg (by decide)).trans ((if_neg (by decide)).trans ((if_neg (by decide)).trans (if_pos rfl))))) ?_
      obtain ⟨q, hq9, eq⟩ := s_below (F := F) (G := G) (I := I) (A := A) (v3 >>> (4 &&& 31)) (m := 10) (by decide) (by decide)
      refine rEnd.by ((zb_s (s_of1 h hp)).trans (zb_s eq)) ?_
      by_cases hf : 10 ≤ bcv (I (G (F b 5) p) 4)
      · exact rEnd.by (if_pos hf) (s_670 h)
      · refine rEnd.by ((if_neg hf).trans (zb_s (s_of6 h hp))) ?_
        by_cases hb1 : hb (I (G (F b 5) p) 4) q = true
        · obtain ⟨k, I2, A2, hk, e, h2, hbc⟩ := s_node ad h hp hq9 hi hb1 hf
          exact rEnd.by ((if_pos ((hb_t (by omega)).mpr hb1)).trans ((zb3_s e).trans ((if_neg (i32_nn (by omega))).trans ((zb_s (s_of1 h2 hp)).trans (if_pos hbc))))) (s_670 h2)
        · exact rEnd.by (if_neg (fun z => hb1 ((hb_t (by omega)).mp z))) (s_670 h)
    | 5, _ =>
      refine rEnd.by ((if_neg (by decide)).trans ((if_neg (by decide)).trans ((if_neg (by decide)).trans ((if_neg (by decide)).trans ((if_neg (by decide)).trans (if_pos rfl)))))) ?_
      obtain ⟨d, hd, ed⟩ := s_below (F := F) (G := G) (I := I) (A := A) (v3 >>> (4 &&& 31)) (m := 5) (by decide) (by decide)
      refine rEnd.by ((zb_s ed).trans (zb_s (s_of4 h hp))) ?_
      obtain ⟨I2, A2, e, h2, hb2⟩ := s_notice ad h hp hd
      have hdv : ¬ ((dutv (I2 (G (F b 5) p) 4) (A2 (F (G (F b 5) p) 2)) (A2 (F (F b 6) 1)) (I2 (G (F b 5) p) 5) >>> (i32 d &&& 31)) &&& 1) = 1 := fun q => by
        have h1 := (hb_t (by omega)).mp q
        rw [dutv_bit _ _ _ _ (by omega) hb2] at h1
        cases h1
      by_cases hb1 : hb (I (G (F b 5) p) 5) d = true
      · exact rEnd.by ((if_pos ((hb_t (by omega)).mpr hb1)).trans ((zb3_s e).trans ((if_pos (bit1_1.mpr hb1)).trans ((zb_s (s_of3 h2 hp)).trans (if_neg hdv))))) (s_670 h2)
      · exact rEnd.by ((if_neg (fun z => hb1 ((hb_t (by omega)).mp z))).trans ((zb3_s e).trans ((if_pos (bit1_0.mpr (Bool.eq_false_iff.mpr hb1))).trans ((zb_s (s_of3 h2 hp)).trans (if_neg hdv))))) (s_670 h2)
    | 6, _ =>
      refine rEnd.by ((if_neg (by decide)).trans ((if_neg (by decide)).trans ((if_neg (by decide)).trans ((if_neg (by decide)).trans ((if_neg (by decide)).trans ((if_neg (by decide)).trans (if_pos rfl))))))) ?_
      refine rEnd.by (zb_s (s_of0 h hp)) ?_
      by_cases hs : I (G (F b 5) p) 6 = 1
      · exact rEnd.by (if_pos hs) (s_670 h)
      · refine rEnd.by ((if_neg hs).trans (zb_s (s_of2 h hp))) ?_
        by_cases hcz : cntv (I (G (F b 5) p) 4) (A (F (G (F b 5) p) 1)) (A (F (G (F b 5) p) 2)) (A (F (F b 6) 0)) (A (F (F b 6) 2)) (A (F (F b 6) 3)) = 0
        · refine rEnd.by ((if_pos hcz).trans (zb_s (s_of3 h hp))) ?_
          by_cases hdz : dutv (I (G (F b 5) p) 4) (A (F (G (F b 5) p) 2)) (A (F (F b 6) 1)) (I (G (F b 5) p) 5) = 0
          · obtain ⟨I2, e, h2, s7, s6⟩ := s_ship ad h hp hs hcz hdz
            exact rEnd.by ((if_pos hdz).trans ((zb2_s e).trans ((zb_s (s_of5 h2 hp)).trans ((if_pos s7.symm).trans ((zb_s (s_of0 h2 hp)).trans (if_pos s6)))))) (s_670 h2)
          · exact rEnd.by (if_neg hdz) (s_670 h)
        · exact rEnd.by (if_neg hcz) (s_670 h)
    | 7, _ =>
      refine rEnd.by ((if_neg (by decide)).trans ((if_neg (by decide)).trans ((if_neg (by decide)).trans ((if_neg (by decide)).trans ((if_neg (by decide)).trans ((if_neg (by decide)).trans (if_neg (by decide)))))))) ?_
      obtain ⟨I2, A2, e, h2⟩ := s_isCleared ad h hp
      exact rEnd.by ((zb3_s e).trans (if_neg (by decide))) (s_670 h2)
    | c + 8, hc => exact absurd hc (by omega)
  · exact rEnd.by (if_neg (le_f (n := 3) (by omega) (by decide))) (s_264 ad h hq2)
theorem s_133 (ad : AD F G b ix) (h : Inv F G b n I A) {Ln : Nat} {xs : Nat → Int32} (hL : Ln ≤ 260) {k : Nat} (hk : k < 60) : ∃ n' I' A', g_L_law_133 F G Ln xs b (i32 k) I A = some (.inl (i32 (k + 1), I', A')) ∧ Inv F G b n' I' A' := by
  have hn := h.n16
  have e16 : i32 k - i32 k / 16 * 16 = i32 (k - k / 16 * 16) := by
    have e1 : i32 k / 16 = i32 (k / 16) := (Int32.ofNat_div (b := 16) (by omega) (by decide)).symm
    have e2 : i32 (k / 16) * 16 = i32 (k / 16 * 16) := (Int32.ofNat_mul (k / 16) 16).symm
    rw [e1, e2]
    exact i32_sub (Nat.div_mul_le_self k 16)
  obtain ⟨r, er⟩ := s_cell (F := F) (G := G) (I := I) (A := A) (xs := xs) hL (k := k - k / 16 * 16) (by omega)
  have goal : rEnd F G b (i32 k) (g_L_law_133 F G Ln xs b (i32 k) I A) := by
    unfold g_L_law_133
    rw [e16]
    refine rEnd.by ((if_neg (le_f (n := 60) hk (by decide))).trans ((zb_s er).trans (zb_s (s_many1 h)))) ?_
    by_cases h0 : n = 0
    · subst h0
      exact rEnd.by (if_pos rfl) (s_186 ad h (Or.inl ⟨rfl, rfl⟩))
    · obtain ⟨i, hi, ei⟩ := s_below (F := F) (G := G) (I := I) (A := A) (((r >>> (((i32 k / 16) * 2) &&& 31)) + ((7 : Int32) * i32 k)) >>> (3 &&& 31)) (m := n) (by omega) (by omega)
      exact rEnd.by ((if_neg (fun q => h0 ((i32_inj (b := 0) (by omega) (by decide)).mp q))).trans (zb_s ei)) (s_186 ad h (Or.inr ⟨i, hi, rfl⟩))
  obtain ⟨n', I', A', e, h'⟩ := goal
  exact ⟨n', I', A', by rw [e, i32_add1], h'⟩
theorem s_loop (ad : AD F G b ix) (h : Inv F G b n I A) {Ln : Nat} {xs : Nat → Int32} (hL : Ln ≤ 260) : ∃ n' I' A', zIt (fun x => g_L_law_133 F G Ln xs b x.1 x.2.1 x.2.2) 61 (0, I, A) = some (i32 60, I', A') ∧ Inv F G b n' I' A' := by
  have key := zIt_go (fun x : Int32 × zH × zH => g_L_law_133 F G Ln xs b x.1 x.2.1 x.2.2) (fun k x => k ≤ 60 ∧ x.1 = i32 (60 - k) ∧ ∃ n, Inv F G b n x.2.1 x.2.2) (fun x => x.1 = i32 60 ∧ ∃ n, Inv F G b n x.2.1 x.2.2) (fun k x hx => ?_) (fun x hx => ?_) 61 60 (i32 0, I, A) (by decide) ⟨Nat.le_refl _, rfl, n, h⟩
  · obtain ⟨⟨x1, I', A'⟩, e, g1, n', g2⟩ := key
    simp only at g1
    subst g1
    exact ⟨n', I', A', e, g2⟩
  · obtain ⟨x1, I1, A1⟩ := x
    obtain ⟨g0, g1, n1, g2⟩ := hx
    simp only at g1 g2
    subst g1
    obtain ⟨n', I', A', e, h'⟩ := s_133 ad g2 hL (xs := xs) (k := 60 - (k + 1)) (by omega)
    exact ⟨_, e, by omega, by show i32 (60 - (k + 1) + 1) = i32 (60 - k); rw [show 60 - (k + 1) + 1 = 60 - k by omega], n', h'⟩
  · obtain ⟨x1, I1, A1⟩ := x
    obtain ⟨g0, g1, g⟩ := hx
    simp only at g1
    subst g1
    exact ⟨_, if_pos (le_t (Nat.le_refl 60) (by decide)), rfl, g⟩
end ZRO
