/-! the law's own helpers: below, cell, isWritten -/
section ZWR
variable {F G : Nat → Nat → Nat} {I A : zH} {b n : Nat} {ix : Nat → Nat}
theorem s_below (x : Int32) {m : Nat} (h0 : 0 < m) (hm : m < 2147483648) : ∃ r, r < m ∧ f_L_below F G x (i32 m) I A = some (i32 r) := by
  have h31 : hbIn (x &&& 2147483647) 31 := fun k hk => by
    rw [hb_and]
    have : hb (2147483647 : Int32) k = false := by
      by_cases hk2 : k = 31
      · subst hk2
        decide
      · exact hb_big (by omega)
    rw [this]
    simp
  obtain ⟨y, hy, e⟩ := hbIn_lt (by decide : 31 < 32) h31
  have hy2 : y < 2147483648 := hy
  refine ⟨y % m, Nat.mod_lt _ h0, ?_⟩
  unfold f_L_below
  have hnz : ¬ i32 m = 0 := fun q => by
    have := (i32_inj hm (by decide : 0 < 2147483648)).mp q
    omega
  refine (zck_s hnz).trans ?_
  rw [e, ← Int32.ofNat_div hy2 hm, ← Int32.ofNat_mul]
  show some (i32 y - i32 (y / m * m)) = _
  rw [i32_sub (Nat.div_mul_le_self y m)]
  congr 2
  have := Nat.div_add_mod y m
  rw [Nat.mul_comm] at this
  omega
theorem s_cell {Ln : Nat} {xs : Nat → Int32} (hL : Ln ≤ 260) {k : Nat} (hk : k < 2147483648) : ∃ r, f_L_cell F G Ln xs (i32 k) I A = some r := by
  unfold f_L_cell
  by_cases h : Ln ≤ k
  · exact ⟨_, if_pos (le_t h hk)⟩
  · exact ⟨_, (if_neg (le_f (by omega) (by omega))).trans (zck_s (i32_in (by omega) (by omega)))⟩
theorem s_six (ad : AD F G b ix) (h : Inv F G b n I A) (hI : I (F b 0) 2 = i32 0) (x : Int32) : ∃ I' A', zIt (fun y => g_L_isWritten_89 F G b x y.1 y.2.1 y.2.2) 2000 (0, I, A) = some (i32 6, I', A') ∧ Inv F G b n I' A' ∧ I' (F b 0) 2 = i32 6 := by
  have key := zIt_inv (fun y : Int32 × zH × zH => g_L_isWritten_89 F G b x y.1 y.2.1 y.2.2) 6 (fun k y => y.1 = i32 k ∧ Inv F G b n y.2.1 y.2.2 ∧ y.2.1 (F b 0) 2 = i32 k) (fun y => y.1 = i32 6 ∧ Inv F G b n y.2.1 y.2.2 ∧ y.2.1 (F b 0) 2 = i32 6) (by decide) (fun k y hk hy => ?_) (fun y hy => ?_) (k0 := 0) (by decide) (x := (i32 0, I, A)) ⟨rfl, h, hI⟩
  · obtain ⟨⟨y1, I', A'⟩, e, g1, g2, g3⟩ := key
    simp only at g1
    subst g1
    exact ⟨I', A', e, g2, g3⟩
  · obtain ⟨y1, I1, A1⟩ := y
    obtain ⟨g1, g2, g3⟩ := hy
    simp only at g1 g2 g3
    subst g1
    obtain ⟨r, hr, er⟩ := s_below (F := F) (G := G) (I := I1) (A := A1) (x >>> (i32 k &&& 31)) (m := 3) (by decide) (by decide)
    have e0 : g_L_isWritten_89 F G b x (i32 k) I1 A1 = _ := (if_neg (le_f (n := 6) hk (by decide))).trans (zb_s er)
    by_cases h0 : i32 r = 0
    · obtain ⟨a, ha, ea⟩ := s_below (F := F) (G := G) (I := I1) (A := A1) (x >>> ((i32 k + 2) &&& 31)) (m := 3) (by decide) (by decide)
      obtain ⟨I2, A2, e2, h2, d2⟩ := s_token ad g2 (t := 10 + a) (m := k) (by omega) (by omega) g3
      have e10 : (10 : Int32) + i32 a = i32 (10 + a) := i32_add 10 a
      refine ⟨(i32 (k + 1), I2, A2), e0.trans ((if_pos h0).trans ((zb_s ea).trans ?_)), rfl, h2, d2⟩
      rw [e10]
      refine (zb3_s e2).trans ((if_pos (i32_add1 k).symm).trans ?_)
      rw [i32_add1]
    · obtain ⟨a, ha, ea⟩ := s_below (F := F) (G := G) (I := I1) (A := A1) (x >>> ((i32 k + 1) &&& 31)) (m := 4) (by decide) (by decide)
      obtain ⟨I2, A2, e2, h2, d2⟩ := s_token ad g2 (t := a) (m := k) (by omega) (by omega) g3
      refine ⟨(i32 (k + 1), I2, A2), e0.trans ((if_neg h0).trans ((zb_s ea).trans ?_)), rfl, h2, d2⟩
      refine (zb3_s e2).trans ((if_pos (i32_add1 k).symm).trans ?_)
      rw [i32_add1]
  · obtain ⟨y1, I1, A1⟩ := y
    obtain ⟨g1, g⟩ := hy
    simp only at g1
    subst g1
    exact ⟨_, if_pos (le_t (Nat.le_refl 6) (by decide)), rfl, g⟩
theorem s_isWritten (ad : AD F G b ix) (h : Inv F G b n I A) {q x : Int32} (hq : q = -1 ∨ ∃ i, i < n ∧ q = i32 i) : ∃ m I' A', f_L_isWritten F G b q x I A = some (1, I', A') ∧ Inv F G b n I' A' ∧ I' (F b 0) 2 = i32 m ∧ 4 ≤ m ∧ m ≤ 12 := by
  have hn := h.n16
  have new : ∃ r I1 A1 I' A', f_X5_cut F G b 12 I A = some (r, I1, A1) ∧ zIt (fun y => g_L_isWritten_89 F G b x y.1 y.2.1 y.2.2) 2000 (0, I1, A1) = some (i32 6, I', A') ∧ Inv F G b n I' A' ∧ I' (F b 0) 2 = i32 6 := by
    obtain ⟨r, I1, A1, e1, h1, d1⟩ := s_cut ad h
    obtain ⟨I', A', e2, h2, d2⟩ := s_six ad h1 d1 x
    exact ⟨r, I1, A1, I', A', e1, e2, h2, d2⟩
  unfold f_L_isWritten
  rcases hq with rfl | ⟨i, hi, rfl⟩
  · obtain ⟨r, I1, A1, I', A', e1, e2, h2, d2⟩ := new
    exact ⟨6, I', A', (if_pos (by decide)).trans ((zb3_s e1).trans (zb3_s e2)), h2, d2, by decide, by decide⟩
  · obtain ⟨r, hr, er⟩ := s_below (F := F) (G := G) (I := I) (A := A) x (m := 2) (by decide) (by decide)
    by_cases h0 : i32 r = 0
    · obtain ⟨sh, hsh, esh⟩ := s_below (F := F) (G := G) (I := I) (A := A) (x >>> (2 &&& 31)) (m := 10) (by decide) (by decide)
      obtain ⟨m, I1, A1, m4, m12, e1, h1, d1, o1, sc1⟩ := s_copy ad h hi hsh
      by_cases hm : m = 12
      · refine ⟨m, I1, A1, (if_neg (i32_nn (by omega))).trans ((zb_s er).trans ((if_pos h0).trans ((zb_s esh).trans ((zb3_s e1).trans ((zb_s o1).trans ((if_pos rfl).trans ((zb_s sc1).trans ((if_pos rfl).trans (if_pos ?_))))))))), h1, d1, m4, m12⟩
        exact (i32_lt (a := 11) (by decide) (by omega)).mpr (by omega)
      · obtain ⟨a, ha, ea⟩ := s_below (F := F) (G := G) (I := I1) (A := A1) (x >>> (4 &&& 31)) (m := 5) (by decide) (by decide)
        obtain ⟨I2, A2, e2, h2, d2⟩ := s_token ad h1 (t := 10 + a) (m := m) (by omega) (by omega) d1
        have e10 : (10 : Int32) + i32 a = i32 (10 + a) := i32_add 10 a
        refine ⟨m + 1, I2, A2, (if_neg (i32_nn (by omega))).trans ((zb_s er).trans ((if_pos h0).trans ((zb_s esh).trans ((zb3_s e1).trans ((zb_s o1).trans ((if_pos rfl).trans ((zb_s sc1).trans ((if_pos rfl).trans ((if_neg ?_).trans ((zb_s ea).trans ?_)))))))))), h2, d2, by omega, by omega⟩
        · exact fun q => by
            have := (i32_lt (a := 11) (by decide) (by omega)).mp q
            omega
        · rw [e10]
          exact (zb3_s e2).trans (if_pos (i32_add1 m).symm)
    · obtain ⟨r2, I1, A1, I', A', e1, e2, h2, d2⟩ := new
      exact ⟨6, I', A', (if_neg (i32_nn (by omega))).trans ((zb_s er).trans ((if_neg h0).trans ((zb3_s e1).trans (zb3_s e2)))), h2, d2, by decide, by decide⟩
/-- what is checked behind each round -/
theorem s_673 {Ln : Nat} {xs : Nat → Int32} {v2 : Int32} (h : Inv F G b n I A) : j_L_law_670 F G Ln xs b v2 I A = some (.inl (v2 + 1, I, A)) := by
  unfold j_L_law_670
  have key := zIt_inv (fun x => g_L_law_673 F G Ln xs b v2 x I A) 2 (fun k x => x = i32 k) (fun _ => True) (by decide) (fun p x hp hx => ?_) (fun x hx => ?_) (k0 := 0) (by decide) (x := i32 0) rfl
  · obtain ⟨r, e, -⟩ := key
    exact zb_s e
  · subst hx
    have e0 : g_L_law_673 F G Ln xs b v2 (i32 p) I A = _ := (if_neg (le_f (n := 2) hp (by decide))).trans (zb_s (s_of0 h hp))
    by_cases hs : I (G (F b 5) p) 6 = 1
    · have h4 := h.2.2.2 p hp
      unfold rcB at h4
      rw [decide_eq_true hs, Bool.true_and, Bool.not_eq_false'] at h4
      unfold ordB at h4
      rw [Bool.and_eq_true, decide_eq_true_eq, decide_eq_true_eq] at h4
      refine ⟨_, e0.trans ((if_pos hs).trans ((zb_s (s_of2 h hp)).trans ((zb_s (s_of3 h hp)).trans (if_pos ?_)))), i32_add1 p⟩
      rw [h4.1, h4.2]
      decide
    · exact ⟨_, e0.trans (if_neg hs), i32_add1 p⟩
  · subst hx
    exact ⟨_, if_pos (le_t (Nat.le_refl 2) (by decide)), trivial⟩
end ZWR
