/-! the draft: token, cut, copy, scan -/
section ZDR
variable {F G : Nat → Nat → Nat} {I A : zH} {b n : Nat} {ix : Nat → Nat}
def Inv (F G : Nat → Nat → Nat) (b n : Nat) (I A : zH) : Prop := Pre F G b n I A ∧ Now F G b n I A
theorem Inv.pN (h : Inv F G b n I A) : pN b n I := h.1.1
theorem Inv.n16 (h : Inv F G b n I A) : n ≤ 16 := h.1.1.1
theorem Inv.i8 (h : Inv F G b n I A) : I b 8 = i32 n := h.1.1.2.1
theorem rowIs.c9 {r m : Nat} (h : rowIs F r m I A) (hm : m ≤ 12) : ∃ c, c ≤ 9 ∧ I r 3 = i32 c := by
  obtain ⟨-, c, h1, h2⟩ := h
  exact ⟨c, by have := h2.1; omega, h1⟩
theorem s_needPiece {i : Nat} (hn : n ≤ 16) (hI : I b 8 = i32 n) (hi : i < n) : f_X5_needPiece F G b (i32 i) I A = some () := by
  unfold f_X5_needPiece
  exact (if_neg (i32_nn (by omega))).trans (if_pos (by rw [hI]; exact (i32_lt (by omega) (by omega)).mpr hi))
theorem s_needLicence {l : Nat} (hI : I b 9 = i32 4) (hl : l < 4) : f_X5_needLicence F G b (i32 l) I A = some () := by
  unfold f_X5_needLicence
  exact (if_neg (i32_nn (by omega))).trans (if_pos (by rw [hI]; exact (i32_lt (by omega) (by omega)).mpr hl))
theorem s_needProject {p : Nat} (hI : I b 10 = i32 2) (hp : p < 2) : f_X5_needProject F G b (i32 p) I A = some () := by
  unfold f_X5_needProject
  exact (if_neg (i32_nn (by omega))).trans (if_pos (by rw [hI]; exact (i32_lt (by omega) (by omega)).mpr hp))
theorem z_draft (ad : AD F G b ix) (h : Inv F G b n I A) {I' A' : zH} (hI : ∀ a k, a ≠ F b 0 ∨ (k ≠ 2 ∧ k ≠ 3) → I' a k = I a k) (hA : ∀ a, a ≠ F (F b 0) 0 → a ≠ F (F b 0) 1 → A' a = A a) (hD : pD F b I' A') : Inv F G b n I' A' := by
  obtain ⟨h1, h2⟩ := h.1.q ad hI (fun a _ _ q1 q2 => hA a q1 q2) hD
  exact ⟨h1, h2 h.2⟩
theorem s_token (ad : AD F G b ix) (h : Inv F G b n I A) {t m : Nat} (ht : t < 30) (hm : m < 12) (hI : I (F b 0) 2 = i32 m) : ∃ I' A', f_X5_token F G b (i32 t) I A = some (i32 (m + 1), I', A') ∧ Inv F G b n I' A' ∧ I' (F b 0) 2 = i32 (m + 1) := by
  obtain ⟨I', A', e, h1, h2, h3, h4⟩ := s_append (F := F) (G := G) (I := I) (A := A) (r := F b 0) (tok := i32 t) (ad_ne ad.dt ad.dp (by decide)) hm hI
  refine ⟨I', A', ?_, z_draft ad h h1 h2 ⟨m + 1, by omega, h4.1, fun j hj => ?_, rowIs.c9 h4 (by omega)⟩, h4.1⟩
  · unfold f_X5_token
    refine (if_neg (i32_nn (by omega))).trans ((if_pos ((i32_lt (b := 30) (by omega) (by decide)).mpr ht)).trans ((if_pos (by rw [hI]; exact (i32_lt (b := 12) (by omega) (by decide)).mpr hm)).trans ((zb2_s e).trans ?_)))
    rw [h4.1]
  · rw [h3]
    by_cases hjm : j = m
    · rw [if_pos hjm]
      exact le_t (Nat.zero_le _) (by omega)
    · rw [if_neg hjm]
      obtain ⟨m', q1, q2, q3, -⟩ := h.1.2.1
      have : m' = m := (i32_inj (by omega) (by omega)).mp (q2.symm.trans hI)
      subst this
      exact q3 j (by omega)
theorem s_cut (ad : AD F G b ix) (h : Inv F G b n I A) : ∃ r I' A', f_X5_cut F G b 12 I A = some (r, I', A') ∧ Inv F G b n I' A' ∧ I' (F b 0) 2 = i32 0 := by
  obtain ⟨m, q1, q2, q3, -⟩ := h.1.2.1
  obtain ⟨I', A', e, h1, h2, h3⟩ := s_cut12 (F := F) (G := G) (I := I) (A := A) (r := F b 0) (ad_ne ad.dt ad.dp (by decide)) q1 q2
  refine ⟨I' (F b 0) 2, I', A', ?_, z_draft ad h h1 (fun a _ q => h2 a q) ⟨0, by omega, h3.1, fun j hj => by omega, rowIs.c9 h3 (by omega)⟩, h3.1⟩
  unfold f_X5_cut
  exact (if_neg (by decide)).trans ((if_pos (by decide)).trans (zb2_s e))
/-- a copy with other names: as long as the piece, and it has all that the piece has -/
theorem s_copy (ad : AD F G b ix) (h : Inv F G b n I A) {i sh : Nat} (hi : i < n) (hs : sh < 10) : ∃ m I' A', 4 ≤ m ∧ m ≤ 12 ∧ f_X5_copy F G b (i32 i) (i32 sh) I A = some (i32 m, I', A') ∧ Inv F G b n I' A' ∧ I' (F b 0) 2 = i32 m ∧ f_X5_ofPiece F G b (i32 i) 0 I' A' = some (i32 m) ∧ f_X5_scan F G b (i32 i) I' A' = some 100 := by
  have hn := h.n16
  have hi16 : i < 16 := by omega
  obtain ⟨m, q1, q2, q3, q4⟩ := h.1.2.2.1 i hi
  have hdt : F (F (G (F b 1) i) 0) 0 ≠ F (F b 0) 0 := ad_ne (ad.pt hi16) ad.dt (by omega)
  obtain ⟨I', A', e, h1, h2, h3, h4⟩ := s_become (F := F) (G := G) (I := I) (A := A) (r := F b 0) (o := F (G (F b 1) i) 0) (sh := sh) (ad_ne ad.d (ad.pr hi16) (by omega)) (ad_ne ad.dt ad.dp (by decide)) hdt q2 q3.1
  have hinv := z_draft ad h h1 h2 ⟨m, q2, h4.1, fun j hj => by
    rw [h3 j hj]
    exact ren_nn hs (q4 j hj), rowIs.c9 h4 q2⟩
  have hI8 := hinv.i8
  refine ⟨m, I', A', q1, q2, ?_, hinv, h4.1, ?_, ?_⟩
  · unfold f_X5_copy
    refine (zb_s (s_needPiece hn h.i8 hi)).trans ((if_neg (i32_nn (by omega))).trans ((if_pos ((i32_lt (b := 10) (by omega) (by decide)).mpr hs)).trans ((zck_s (i32_in hi16 (by decide))).trans ?_)))
    rw [i32_nat (by omega)]
    refine (zb2_s e).trans ?_
    rw [h4.1]
  · unfold f_X5_ofPiece
    refine (zb_s (s_needPiece hn hI8 hi)).trans ((zck_s (i32_in hi16 (by decide))).trans ((if_pos rfl).trans ?_))
    rw [i32_nat (by omega), h1 _ _ (Or.inl (ad_ne (ad.pr hi16) ad.d (by omega))), q3.1]
  · unfold f_X5_scan
    refine (zb_s (s_needPiece hn hI8 hi)).trans ((zck_s (i32_in hi16 (by decide))).trans ?_)
    rw [i32_nat (by omega)]
    obtain ⟨hd2, cd, hd3, hdp⟩ := h4
    obtain ⟨hp2, cp, hp3, hpp⟩ := q3
    have ep3 : I' (F (G (F b 1) i) 0) 3 = i32 cp := by rw [h1 _ _ (Or.inl (ad_ne (ad.pr hi16) ad.d (by omega))), hp3]
    have ept : A' (F (F (G (F b 1) i) 0) 1) = A (F (F (G (F b 1) i) 0) 1) := h2 _ (ad_ne (ad.pp hi16) ad.dt (by omega)) (ad_ne (ad.pp hi16) ad.dp (by omega))
    obtain ⟨d1, d2, d3, d4⟩ := hdp
    obtain ⟨w1, w2, w3, w4⟩ := hpp
    obtain ⟨q, z1, z2, z3⟩ := s_shareWith (F := F) (G := G) (I := I') (A := A') hd3 ep3 (by omega) (by omega) d2
    refine (zb_s z2).trans ?_
    rw [z3 ?_ ?_]
    · rfl
    · obtain ⟨j, hj, -⟩ := d4 0 (by omega)
      omega
    · intro k hk
      obtain ⟨s, hs3, es⟩ := d3 k hk
      have ep : prv (A' (F (F b 0) 0)) s = prv (A (F (F (G (F b 1) i) 0) 0)) s := prv_ren hs (fun e he => q4 _ (by omega)) (fun e he => h3 _ (by omega))
      obtain ⟨j, hj, ej⟩ := w4 s hs3
      rw [ept]
      exact hasB_t.mpr ⟨j, hj, by rw [es, ep, ej]⟩
end ZDR
