/-! many, scan: the same whatever stands in scratch -/
section ZMY
variable {F G : Nat → Nat → Nat} {I A : zH} {b n : Nat} {ix : Nat → Nat}
theorem d_that (h : Inv F G b n I A) (s : Int32) : ∃ v, ∀ A1, zScr F G b A A1 → f_X5_projectsThatAre F G b s I A1 = some v := by
  have h10 := h.1.1.2.2.2.1
  obtain ⟨v, hv⟩ := det_loop (α := Int32) (T := zScr F G b A) (fun A1 x => g_X5_projectsThatAre_4 F G b s x.1 x.2 I A1) 2 (by decide) (fun A1 _ a => if_pos (by rw [h10]; exact le_t (Nat.le_refl 2) (by decide))) (fun p hp a => by
    by_cases hs : I (G (F b 5) p) 6 = s
    · refine ⟨a + 1, fun A1 _ => (if_neg (by rw [h10]; exact le_f hp (by decide))).trans ((zck_s (i32_in (by omega : p < 5) (by decide))).trans ?_)⟩
      rw [i32_nat (by omega), if_pos hs, i32_add1]
    · refine ⟨a, fun A1 _ => (if_neg (by rw [h10]; exact le_f hp (by decide))).trans ((zck_s (i32_in (by omega : p < 5) (by decide))).trans ?_)⟩
      rw [i32_nat (by omega), if_neg hs, i32_add1]) 0
  exact ⟨v, fun A1 q => zb2_s (hv A1 q)⟩
theorem d_nodes (h : Inv F G b n I A) : ∃ v, ∀ A1, zScr F G b A A1 → f_X5_nodesOfAll F G b I A1 = some v := by
  have h10 := h.1.1.2.2.2.1
  obtain ⟨v, hv⟩ := det_loop (α := Int32) (T := zScr F G b A) (fun A1 x => g_X5_nodesOfAll_4 F G b x.1 x.2 I A1) 2 (by decide) (fun A1 _ a => if_pos (by rw [h10]; exact le_t (Nat.le_refl 2) (by decide))) (fun p hp a => by
    refine ⟨a + bcv (I (G (F b 5) p) 4), fun A1 _ => (if_neg (by rw [h10]; exact le_f hp (by decide))).trans ((zck_s (i32_in (by omega : p < 5) (by decide))).trans ?_)⟩
    rw [i32_nat (by omega)]
    refine (zb_s (s_bc _)).trans ?_
    rw [i32_add1]) 0
  exact ⟨v, fun A1 q => zb2_s (hv A1 q)⟩
theorem d_first (ad : AD F G b ix) (h : Inv F G b n I A) : ∃ v, ∀ A1, zScr F G b A A1 → f_X5_firstPieces F G b I A1 = some v := by
  have hn := h.n16
  obtain ⟨v, hv⟩ := det_loop (α := Int32) (T := zScr F G b A) (fun A1 x => g_X5_firstPieces_4 F G b x.1 x.2 I A1) n (by omega) (fun A1 _ a => if_pos (by rw [h.i8]; exact le_t (Nat.le_refl n) (by omega))) (fun k hk a => by
    by_cases hs : A (F b 3) k = 0
    · refine ⟨a + 1, fun A1 q => (if_neg (by rw [h.i8]; exact le_f hk (by omega))).trans ((zck_s (i32_in (by omega : k < 16) (by decide))).trans ((if_pos ?_).trans (by rw [i32_add1])))⟩
      rw [i32_nat (by omega), zScr.og ad q]
      exact hs
    · refine ⟨a, fun A1 q => (if_neg (by rw [h.i8]; exact le_f hk (by omega))).trans ((zck_s (i32_in (by omega : k < 16) (by decide))).trans ((if_neg ?_).trans (by rw [i32_add1])))⟩
      rw [i32_nat (by omega), zScr.og ad q]
      exact hs) 0
  exact ⟨v, fun A1 q => zb2_s (hv A1 q)⟩
theorem d_many (ad : AD F G b ix) (h : Inv F G b n I A) {w : Nat} (hw : w < 11) : ∃ v, ∀ A1, zScr F G b A A1 → f_X5_many F G b (i32 w) I A1 = some v := by
  unfold f_X5_many
  match w, hw with
  | 0, _ => exact ⟨_, fun A1 _ => if_pos rfl⟩
  | 1, _ => exact ⟨_, fun A1 _ => (if_neg (by decide)).trans (if_pos rfl)⟩
  | 2, _ => exact ⟨_, fun A1 _ => (if_neg (by decide)).trans ((if_neg (by decide)).trans (if_pos rfl))⟩
  | 3, _ => exact ⟨_, fun A1 _ => (if_neg (by decide)).trans ((if_neg (by decide)).trans ((if_neg (by decide)).trans (if_pos rfl)))⟩
  | 4, _ =>
    obtain ⟨v, hv⟩ := d_that h 0
    exact ⟨v, fun A1 q => (if_neg (by decide)).trans ((if_neg (by decide)).trans ((if_neg (by decide)).trans ((if_neg (by decide)).trans ((if_pos rfl).trans (zb_s (hv A1 q))))))⟩
  | 5, _ =>
    obtain ⟨v, hv⟩ := d_that h 1
    exact ⟨v, fun A1 q => (if_neg (by decide)).trans ((if_neg (by decide)).trans ((if_neg (by decide)).trans ((if_neg (by decide)).trans ((if_neg (by decide)).trans ((if_pos rfl).trans (zb_s (hv A1 q)))))))⟩
  | 6, _ =>
    obtain ⟨v, hv⟩ := d_that h 2
    exact ⟨v, fun A1 q => (if_neg (by decide)).trans ((if_neg (by decide)).trans ((if_neg (by decide)).trans ((if_neg (by decide)).trans ((if_neg (by decide)).trans ((if_neg (by decide)).trans ((if_pos rfl).trans (zb_s (hv A1 q))))))))⟩
  | 7, _ =>
    obtain ⟨v, hv⟩ := d_nodes h
    exact ⟨v, fun A1 q => (if_neg (by decide)).trans ((if_neg (by decide)).trans ((if_neg (by decide)).trans ((if_neg (by decide)).trans ((if_neg (by decide)).trans ((if_neg (by decide)).trans ((if_neg (by decide)).trans ((if_pos rfl).trans (zb_s (hv A1 q)))))))))⟩
  | 8, _ =>
    obtain ⟨v, hv⟩ := d_first ad h
    exact ⟨v, fun A1 q => (if_neg (by decide)).trans ((if_neg (by decide)).trans ((if_neg (by decide)).trans ((if_neg (by decide)).trans ((if_neg (by decide)).trans ((if_neg (by decide)).trans ((if_neg (by decide)).trans ((if_neg (by decide)).trans ((if_pos rfl).trans (zb_s (hv A1 q))))))))))⟩
  | 9, _ => exact ⟨_, fun A1 _ => (if_neg (by decide)).trans ((if_neg (by decide)).trans ((if_neg (by decide)).trans ((if_neg (by decide)).trans ((if_neg (by decide)).trans ((if_neg (by decide)).trans ((if_neg (by decide)).trans ((if_neg (by decide)).trans ((if_neg (by decide)).trans (if_pos rfl)))))))))⟩
  | 10, _ => exact ⟨_, fun A1 _ => (if_neg (by decide)).trans ((if_neg (by decide)).trans ((if_neg (by decide)).trans ((if_neg (by decide)).trans ((if_neg (by decide)).trans ((if_neg (by decide)).trans ((if_neg (by decide)).trans ((if_neg (by decide)).trans ((if_neg (by decide)).trans ((if_neg (by decide)).trans (if_pos rfl))))))))))⟩
theorem zScr.dp {A1 : zH} (ad : AD F G b ix) (h : zScr F G b A A1) : A1 (F (F b 0) 1) = A (F (F b 0) 1) := h _ (fun j hj => ad_ne ad.dp (ad.sp hj) (by omega)) (fun p hp => ad_ne ad.dp (ad.pa hp (by decide : 3 < 4)) (by omega))
theorem zScr.pp {A1 : zH} (ad : AD F G b ix) (h : zScr F G b A A1) {i : Nat} (hi : i < 16) : A1 (F (F (G (F b 1) i) 0) 1) = A (F (F (G (F b 1) i) 0) 1) := h _ (fun j hj => ad_ne (ad.pp hi) (ad.sp hj) (by omega)) (fun p hp => ad_ne (ad.pp hi) (ad.pa hp (by decide : 3 < 4)) (by omega))
theorem d_scan (ad : AD F G b ix) (h : Inv F G b n I A) {i : Nat} (hi : i < n) : ∃ v, ∀ A1, zScr F G b A A1 → f_X5_scan F G b (i32 i) I A1 = some v := by
  have hn := h.n16
  have hi16 : i < 16 := by omega
  obtain ⟨-, -, -, -, c1, hc1, h1⟩ := h.1.2.1
  obtain ⟨m, -, q2, ⟨-, c2, h2, hp2⟩, -⟩ := h.1.2.2.1 i hi
  have hc2 : c2 ≤ 9 := by have := hp2.1; omega
  have key : ∃ v, ∀ A1, zScr F G b A A1 → f_X4_shareWith F G (F b 0) (F (G (F b 1) i) 0) I A1 = some v := by
    unfold f_X4_shareWith
    rw [h1, h2, z_min (by omega) (by omega)]
    by_cases hz : i32 (min c1 c2) = (0 : Int32)
    · exact ⟨0, fun A1 _ => if_pos hz⟩
    · obtain ⟨v, hv⟩ := det_loop (α := Int32) (T := zScr F G b A) (fun A1 x => g_X4_shareWith_23 F G (F b 0) (F (G (F b 1) i) 0) (i32 (min c1 c2)) x.1 x.2 I A1) c1 (by omega) (fun A1 _ a => if_pos (by rw [h1]; exact le_t (Nat.le_refl c1) (by omega))) (fun k hk a => by
        refine ⟨if hasB (A (F (F (G (F b 1) i) 0) 1)) c2 (A (F (F b 0) 1) k) then a + 1 else a, fun A1 q => (if_neg (by rw [h1]; exact le_f hk (by omega))).trans ((zck_s (i32_in (by omega : k < 9) (by decide))).trans ?_)⟩
        rw [i32_nat (by omega)]
        refine (zb_s (s_hasPrint h2 hc2)).trans ?_
        rw [zScr.dp ad q, zScr.pp ad q hi16, i32_add1]
        cases hasB (A (F (F (G (F b 1) i) 0) 1)) c2 (A (F (F b 0) 1) k) <;> rfl) 0
      exact ⟨_, fun A1 q => (if_neg hz).trans ((zb2_s (hv A1 q)).trans (zck_s hz))⟩
  obtain ⟨v, hv⟩ := key
  refine ⟨v, fun A1 q => ?_⟩
  unfold f_X5_scan
  refine (zb_s (s_needPiece hn h.i8 hi)).trans ((zck_s (i32_in hi16 (by decide))).trans ?_)
  rw [i32_nat (by omega)]
  exact zb_s (hv A1 q)
end ZMY
