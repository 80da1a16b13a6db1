/-! isCleared -/
section ZIC
variable {F G : Nat → Nat → Nat} {I A : zH} {b n : Nat} {ix : Nat → Nat}
theorem clsP_in (p : Nat) : ∀ k, k < 10 → hbIn (clsP F G b p I A k) 10 := clsv_in _ _ _ _ _ _
theorem rem_in (p : Nat) : hbIn (remv (clsP F G b p I A)) 10 := (remv_s (clsP_in p)).2.2.1
theorem rem_nd (p : Nat) : ∀ k, hb (remv (clsP F G b p I A)) k = true → hb (I (G (F b 5) p) 4) k = true := fun j hj => by
  have h1 := (remv_s (clsP_in p)).2.1 j hj
  rw [hb_invv, List.any_eq_true] at h1
  obtain ⟨k, hk, h2⟩ := h1
  unfold clsP clsv at h2
  split at h2
  · rw [hb_clv, Bool.and_eq_true, Bool.and_eq_true] at h2
    exact h2.2.1
  · rw [hb_zero] at h2
    cases h2
theorem clashB_n (S R W : Nat → Int32) (q : Int32) (far : Bool) : clashB S R W (-1) q far = false := by
  unfold clashB
  simp
theorem clashB_n2 (S R W : Nat → Int32) (q : Int32) (far : Bool) : clashB S R W q (-1) far = false := by
  unfold clashB
  simp
/-- without the nodes of the remedy nothing clashes -/
theorem rem_ok (h : Inv F G b n I A) {p : Nat} {I' A' : zH} (hp : p < 2) (hl : likeP F G b p I A I' A') (ad : AD F G b ix) (hA : ∀ j, A' (F (G (F b 5) p) 2) j = if hb (remv (clsP F G b p I A)) j then -1 else A (F (G (F b 5) p) 2) j) (h' : Inv F G b n I' A') : cntP F G b p I' A' = 0 := by
  have hp5 : p < 5 := by omega
  obtain ⟨c, c1, c2, c3⟩ := cntv_s (I' (G (F b 5) p) 4) (A' (F (G (F b 5) p) 1)) (A' (F (G (F b 5) p) 2)) (A' (F (F b 6) 0)) (A' (F (F b 6) 2)) (A' (F (F b 6) 3))
  have bB : ∀ j, j < 4 → A' (F (F b 6) j) = A (F (F b 6) j) := fun j hj => hl.2 _ (ad_ne (ad.bd hj) ad.og (by omega)) (ad_ne (ad.bd hj) (ad.pa hp5 (by decide : 2 < 4)) (by omega)) (ad_ne (ad.bd hj) (ad.pa hp5 (by decide : 3 < 4)) (by omega))
  have bA : A' (F (G (F b 5) p) 1) = A (F (G (F b 5) p) 1) := hl.2 _ (ad_ne (ad.pa hp5 (by decide : 1 < 4)) ad.og (by omega)) (ad_ne (ad.pa hp5 (by decide : 1 < 4)) (ad.pa hp5 (by decide : 2 < 4)) (by omega)) (ad_ne (ad.pa hp5 (by decide : 1 < 4)) (ad.pa hp5 (by decide : 3 < 4)) (by omega))
  have i4 : I' (G (F b 5) p) 4 = I (G (F b 5) p) 4 := hl.1 _ _ (Or.inr (by decide))
  have hc0 : c = 0 := c3.mpr fun k hk nk j hjk => by
    rw [i4] at nk ⊢
    rw [bA, bB 0 (by decide), bB 2 (by decide), bB 3 (by decide), hb_clv]
    by_cases hsk : hb (remv (clsP F G b p I A)) k = true
    · rw [hA k, if_pos hsk, clashB_n]
      simp
    · rw [hA k, if_neg hsk]
      have hln := (remv_s (clsP_in (F := F) (G := G) (I := I) (A := A) (b := b) p)).1
      have horig : hb (clsP F G b p I A k) j = true → hb (remv (clsP F G b p I A)) j = true := fun q => lnB_s hln hk (Bool.eq_false_iff.mpr hsk) (by omega) q
      have ecl : hb (clsP F G b p I A k) j = (decide (j < 10) && (hb (I (G (F b 5) p) 4) j && clashB (A (F (F b 6) 0)) (A (F (F b 6) 2)) (A (F (F b 6) 3)) (A (F (G (F b 5) p) 2) k) (if j = k then A (F (G (F b 5) p) 2) k else A (F (G (F b 5) p) 2) j) (farB (A (F (G (F b 5) p) 1)) k j))) := by
        unfold clsP clsv
        rw [if_pos nk, hb_clv]
      by_cases hjk2 : j = k
      · rw [if_pos hjk2]
        rw [if_pos hjk2] at ecl
        rw [← ecl]
        refine Bool.eq_false_iff.mpr fun q => hsk ?_
        rw [← hjk2]
        exact horig (by rw [hjk2]; rw [hjk2] at q; exact q)
      · rw [if_neg hjk2, hA j]
        rw [if_neg hjk2] at ecl
        by_cases hsj : hb (remv (clsP F G b p I A)) j = true
        · rw [if_pos hsj, clashB_n2]
          simp
        · rw [if_neg hsj, ← ecl]
          exact Bool.eq_false_iff.mpr fun q => hsj (horig q)
  show cntv _ _ _ _ _ _ = 0
  rw [c2, hc0]
  rfl
def clMain (F G : Nat → Nat → Nat) (b : Nat) (p r1 : Int32) (I A2 : zH) : Option (Int32 × zH × zH) :=
  zb4 (zIt (fun x => g_L_isCleared_56 F G b p r1 x.1 x.2.1 x.2.2.1 x.2.2.2) 2000 (0, I, A2, (fun _ => 0))) fun i60 I61 A62 w63 =>
  zb (f_X5_ofProject F G b p 2 I61 A62) fun r64 =>
  if r64 = 0 then (
    zb3 (zIt (fun x => g_L_isCleared_105 F G b p r1 w63 x.1 x.2.1 x.2.2) 2000 (0, I61, A62)) fun i68 I69 A70 =>
    zb2 (f_X5_remedy F G b p I69 A70) fun r71 A72 =>
    if r71 = r1 then some (1, I69, A72) else none) else none
theorem s_clMain (ad : AD F G b ix) (h : Inv F G b n I A) {p : Nat} (hp : p < 2) : ∃ I' A', clMain F G b (i32 p) (remv (clsP F G b p I A)) I A = some (1, I', A') ∧ Inv F G b n I' A' := by
  have hp5 : p < 5 := by omega
  obtain ⟨I1, A1, w, e1, h1, l1, c1, w1⟩ := s_empty ad h hp (rem_in p) (rem_nd p)
  have e2 := s_of2 h1 hp
  have z0 : cntv (I1 (G (F b 5) p) 4) (A1 (F (G (F b 5) p) 1)) (A1 (F (G (F b 5) p) 2)) (A1 (F (F b 6) 0)) (A1 (F (F b 6) 2)) (A1 (F (F b 6) 3)) = 0 := rem_ok h hp l1 ad c1 h1
  obtain ⟨I2, A2, e3, h2, l2, c2⟩ := s_back ad h h1 (w := w) hp (rem_in p) l1 (rem_nd p) c1 w1
  obtain ⟨A3, e4, a3, s3⟩ := s_remedy ad h2 hp
  have ecl : clsP F G b p I2 A2 = clsP F G b p I A := by
    have bB : ∀ j, j < 4 → A2 (F (F b 6) j) = A (F (F b 6) j) := fun j hj => l2.2 _ (ad_ne (ad.bd hj) ad.og (by omega)) (ad_ne (ad.bd hj) (ad.pa hp5 (by decide : 2 < 4)) (by omega)) (ad_ne (ad.bd hj) (ad.pa hp5 (by decide : 3 < 4)) (by omega))
    have bA : A2 (F (G (F b 5) p) 1) = A (F (G (F b 5) p) 1) := l2.2 _ (ad_ne (ad.pa hp5 (by decide : 1 < 4)) ad.og (by omega)) (ad_ne (ad.pa hp5 (by decide : 1 < 4)) (ad.pa hp5 (by decide : 2 < 4)) (by omega)) (ad_ne (ad.pa hp5 (by decide : 1 < 4)) (ad.pa hp5 (by decide : 3 < 4)) (by omega))
    have i4 : I2 (G (F b 5) p) 4 = I (G (F b 5) p) 4 := l2.1 _ _ (Or.inr (by decide))
    unfold clsP
    rw [i4, bA, show A2 (F (G (F b 5) p) 2) = A (F (G (F b 5) p) 2) from funext c2, bB 0 (by decide), bB 2 (by decide), bB 3 (by decide)]
  rw [ecl] at e4
  refine ⟨I2, A3, ?_, h2.scr ad s3⟩
  unfold clMain
  refine (zb4_s e1).trans ((zb_s e2).trans ((if_pos z0).trans ((zb3_s e3).trans ((zb2_s e4).trans (if_pos rfl)))))
theorem remv_le (p : Nat) : remv (clsP F G b p I A) ≤ 0 ↔ remv (clsP F G b p I A) = 0 := by
  obtain ⟨m, hm, e⟩ := hb_10 (rem_in (F := F) (G := G) (I := I) (A := A) (b := b) p)
  rw [e]
  constructor
  · intro q
    have := (i32_le (b := 0) (by omega) (by decide)).mp q
    rw [show m = 0 by omega]
    rfl
  · intro q
    rw [q]
    exact le_t (Nat.le_refl 0) (by decide)
theorem s_isCleared (ad : AD F G b ix) (h : Inv F G b n I A) {p : Nat} (hp : p < 2) : ∃ I' A', f_L_isCleared F G b (i32 p) I A = some (1, I', A') ∧ Inv F G b n I' A' := by
  have hp5 : p < 5 := by omega
  obtain ⟨A2, e1, a2, s2⟩ := s_remedy ad h hp
  have h2 := h.scr ad s2
  have hcl : clsP F G b p I A2 = clsP F G b p I A := by
    unfold clsP
    rw [a2 _ (Inv.ap ad hp5).1, a2 _ (Inv.ap ad hp5).2.1, a2 _ (Inv.ap ad hp5).2.2.1, a2 _ (Inv.ap ad hp5).2.2.2.1, a2 _ (Inv.ap ad hp5).2.2.2.2]
  obtain ⟨I', A', e3, h3⟩ := s_clMain ad h2 hp
  rw [hcl] at e3
  have hrs := remv_s (clsP_in (F := F) (G := G) (I := I) (A := A2) (b := b) p)
  obtain ⟨c, c1, c2, c3⟩ := cnt_inv h2 hp
  rw [hcl] at hrs c3
  have rle := remv_le (F := F) (G := G) (b := b) (I := I) (A := A2) p
  rw [hcl] at rle
  have o2 : f_X5_ofProject F G b (i32 p) 2 I A2 = some (i32 c) := by rw [← c2]; exact s_of2 h2 hp
  have main : (if i32 c ≤ 0 then (if remv (clsP F G b p I A) ≤ 0 then clMain F G b (i32 p) (remv (clsP F G b p I A)) I A2 else none) else (if remv (clsP F G b p I A) ≤ 0 then none else clMain F G b (i32 p) (remv (clsP F G b p I A)) I A2)) = some (1, I', A') := by
    by_cases hc : c = 0
    · subst hc
      exact (if_pos (le_t (Nat.le_refl 0) (by decide))).trans ((if_pos (rle.mpr (hrs.2.2.2.mpr (c3.mp rfl)))).trans e3)
    · exact (if_neg (fun q => hc (by have := (i32_le (b := 0) (by omega) (by decide)).mp q; omega))).trans ((if_neg (fun q => hc (c3.mpr (hrs.2.2.2.mp (rle.mp q))))).trans e3)
  refine ⟨I', A', ?_, h3⟩
  unfold f_L_isCleared
  refine (zb2_s e1).trans ((zb_s (s_of0 h2 hp)).trans ?_)
  by_cases hs : I (G (F b 5) p) 6 = 1
  · refine (if_pos hs).trans ?_
    have hz : remv (clsP F G b p I A) = 0 := by
      refine hrs.2.2.2.mpr (c3.mp ?_)
      have h4 := h2.2.2.2 p hp
      unfold rcB at h4
      rw [decide_eq_true hs, Bool.true_and, Bool.not_eq_false'] at h4
      unfold ordB at h4
      rw [Bool.and_eq_true, decide_eq_true_eq, decide_eq_true_eq] at h4
      have : i32 c = i32 0 := c2.symm.trans h4.2
      exact (i32_inj (by omega) (by decide)).mp this
    refine (if_pos hz).trans ((zb_s o2).trans ?_)
    exact main
  · refine (if_neg hs).trans ((zb_s o2).trans ?_)
    exact main
end ZIC
