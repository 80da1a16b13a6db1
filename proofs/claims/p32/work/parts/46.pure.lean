/-! the digest, and isFair whole -/
section ZDG
variable {F G : Nat → Nat → Nat} {I A : zH} {b n : Nat} {ix : Nat → Nat}
theorem s_fold (x : Int64) (v : Int32) {A1 : zH} : f_X5_fold F G x v I A1 = some ((x * 31) + v.toInt64) := rfl
theorem d_foldPiece (ad : AD F G b ix) (h : Inv F G b n I A) {i : Nat} (hi : i < n) (x : Int64) : ∃ v, ∀ A1, zScr F G b A A1 → f_X5_foldPiece F G b x (i32 i) I A1 = some v := by
  have hn := h.n16
  obtain ⟨v, hv⟩ := det_loop (α := Int64) (T := zScr F G b A) (fun A1 y => g_X5_foldPiece_6 F G b (i32 i) y.1 y.2 I A1) 8 (by decide) (fun A1 _ a => if_pos (le_t (Nat.le_refl 8) (by decide))) (fun k hk a => by
    obtain ⟨w, hw⟩ := d_ofPiece ad h hi hk
    refine ⟨(a * 31) + w.toInt64, fun A1 q => (if_neg (le_f (n := 8) hk (by decide))).trans ((zb_s (hw A1 q)).trans ((zb_s (s_fold _ _)).trans ?_))⟩
    rw [i32_add1]) x
  obtain ⟨s, hs⟩ := d_scan ad h hi
  by_cases hl : i + 1 < n
  · obtain ⟨u, hu⟩ := d_share ad h hi hl
    refine ⟨_, fun A1 q => (zb2_s (hv A1 q)).trans ((zb_s (hs A1 q)).trans ((zb_s (s_fold _ _)).trans ((if_neg ?_).trans ((zb_s (by rw [i32_add1]; exact hu A1 q)).trans ((zb_s (s_fold _ _)).trans rfl)))))⟩
    rw [h.i8, i32_add1]
    exact le_f hl (by omega)
  · refine ⟨_, fun A1 q => (zb2_s (hv A1 q)).trans ((zb_s (hs A1 q)).trans ((zb_s (s_fold _ _)).trans (if_pos ?_)))⟩
    rw [h.i8, i32_add1]
    exact le_t (by omega) (by omega)
theorem d_foldLicence (ad : AD F G b ix) (h : Inv F G b n I A) {l : Nat} (hl : l < 4) (x : Int64) : ∃ v, ∀ A1, zScr F G b A A1 → f_X5_foldLicence F G b x (i32 l) I A1 = some v := by
  obtain ⟨v, hv⟩ := det_loop (α := Int64) (T := zScr F G b A) (fun A1 y => g_X5_foldLicence_6 F G b (i32 l) y.1 y.2 I A1) 6 (by decide) (fun A1 _ a => if_pos (le_t (Nat.le_refl 6) (by decide))) (fun k hk a => by
    obtain ⟨w, hw⟩ := d_ofLicence ad h hl hk
    refine ⟨(a * 31) + w.toInt64, fun A1 q => (if_neg (le_f (n := 6) hk (by decide))).trans ((zb_s (hw A1 q)).trans ((zb_s (s_fold _ _)).trans ?_))⟩
    rw [i32_add1]) x
  exact ⟨v, fun A1 q => zb2_s (hv A1 q)⟩
theorem d_foldNode (ad : AD F G b ix) (h : Inv F G b n I A) {p q : Nat} (hp : p < 2) (hq : q < 10) (hnode : hb (I (G (F b 5) p) 4) q = true) (x : Int64) : ∃ v, ∀ A1, zScr F G b A A1 → f_X5_foldNode F G b x (i32 p) (i32 q) I A1 = some v := by
  obtain ⟨v, hv⟩ := det_loop (α := Int64) (T := zScr F G b A) (fun A1 y => g_X5_foldNode_6 F G b (i32 p) (i32 q) y.1 y.2 I A1) 5 (by decide) (fun A1 _ a => if_pos (le_t (Nat.le_refl 5) (by decide))) (fun k hk a => by
    obtain ⟨w, hw⟩ := d_ofNode ad h hp hq hnode hk
    refine ⟨(a * 31) + w.toInt64, fun A1 z => (if_neg (le_f (n := 5) hk (by decide))).trans ((zb_s (hw A1 z)).trans ((zb_s (s_fold _ _)).trans ?_))⟩
    rw [i32_add1]) x
  obtain ⟨s, hs⟩ := d_subst ad h hp hq hnode
  exact ⟨_, fun A1 z => (zb2_s (hv A1 z)).trans ((zb_s (hs A1 z)).trans ((zb_s (s_fold _ _)).trans rfl))⟩
theorem d_foldProject (ad : AD F G b ix) (h : Inv F G b n I A) {p : Nat} (hp : p < 2) (x : Int64) : ∃ v, ∀ A1, zScr F G b A A1 → ∃ A2, f_X5_foldProject F G b x (i32 p) I A1 = some (v, A2) ∧ zScr F G b A A2 := by
  have hp5 : p < 5 := by omega
  obtain ⟨v, hv⟩ := det_loop (α := Int64) (T := zScr F G b A) (fun A1 y => g_X5_foldProject_6 F G b (i32 p) y.1 y.2 I A1) 7 (by decide) (fun A1 _ a => if_pos (le_t (Nat.le_refl 7) (by decide))) (fun k hk a => by
    obtain ⟨w, hw⟩ := d_ofProject ad h hp hk
    refine ⟨(a * 31) + w.toInt64, fun A1 z => (if_neg (le_f (n := 7) hk (by decide))).trans ((zb_s (hw A1 z)).trans ((zb_s (s_fold _ _)).trans ?_))⟩
    rw [i32_add1]) x
  obtain ⟨u, hu⟩ := det_loop (α := Int64) (T := zScr F G b A) (fun A1 y => g_X5_foldProject_48 F G b (i32 p) y.1 y.2 I A1) 10 (by decide) (fun A1 _ a => if_pos (le_t (Nat.le_refl 10) (by decide))) (fun k hk a => by
    have e0 : ∀ A1, zScr F G b A A1 → g_X5_foldProject_48 F G b (i32 p) a (i32 k) I A1 = _ := fun A1 _ => (if_neg (le_f (n := 10) hk (by decide))).trans ((zck_s (i32_in hp5 (by decide))).trans (zb_s (by rw [i32_nat (by omega)]; exact s_hasNode hk)))
    by_cases hnode : hb (I (G (F b 5) p) 4) k = true
    · obtain ⟨w, hw⟩ := d_foldNode ad h hp hk hnode a
      refine ⟨w, fun A1 z => (e0 A1 z).trans ((if_neg (fun q => by rw [bit1_0.mp q] at hnode; cases hnode)).trans ((zb_s (hw A1 z)).trans (by rw [i32_add1])))⟩
    · exact ⟨a, fun A1 z => (e0 A1 z).trans ((if_pos (bit1_0.mpr (Bool.eq_false_iff.mpr hnode))).trans (by rw [i32_add1]))⟩) ((v * 31) + (remv (clsP F G b p I A)).toInt64)
  refine ⟨u, fun A1 q => ?_⟩
  obtain ⟨A2, e2, -, s2⟩ := s_remedy ad (h.scr ad q) hp
  rw [clsP_scr ad q hp5] at e2
  have q2 := zScr.trans q s2
  exact ⟨A2, (zb2_s (hv A1 q)).trans ((zb2_s e2).trans ((zb_s (s_fold _ _)).trans (zb2_s (hu A2 q2)))), q2⟩
theorem d_digest (ad : AD F G b ix) (h : Inv F G b n I A) : ∃ v, ∀ A1, zScr F G b A A1 → ∃ A2, f_X5_digest F G b I A1 = some (v, A2) ∧ zScr F G b A A2 := by
  have hn := h.n16
  have h9 := h.1.1.2.2.1
  have h10 := h.1.1.2.2.2.1
  obtain ⟨v1, hv1⟩ := det_loop (α := Int64) (T := zScr F G b A) (fun A1 y => g_X5_digest_6 F G b y.1 y.2 I A1) 11 (by decide) (fun A1 _ a => if_pos (le_t (Nat.le_refl 11) (by decide))) (fun k hk a => by
    obtain ⟨w, hw⟩ := d_many ad h hk
    refine ⟨(a * 31) + w.toInt64, fun A1 z => (if_neg (le_f (n := 11) hk (by decide))).trans ((zb_s (hw A1 z)).trans ((zb_s (s_fold _ _)).trans ?_))⟩
    rw [i32_add1]) 58109
  obtain ⟨v2, hv2⟩ := det_loop (α := Int64) (T := zScr F G b A) (fun A1 y => g_X5_digest_30 F G b y.1 y.2 I A1) n (by omega) (fun A1 _ a => if_pos (by rw [h.i8]; exact le_t (Nat.le_refl n) (by omega))) (fun k hk a => by
    obtain ⟨w, hw⟩ := d_foldPiece ad h hk a
    refine ⟨w, fun A1 z => (if_neg (by rw [h.i8]; exact le_f hk (by omega))).trans ((zb_s (hw A1 z)).trans ?_)⟩
    rw [i32_add1]) v1
  obtain ⟨v3, hv3⟩ := det_loop (α := Int64) (T := zScr F G b A) (fun A1 y => g_X5_digest_53 F G b y.1 y.2 I A1) 4 (by decide) (fun A1 _ a => if_pos (by rw [h9]; exact le_t (Nat.le_refl 4) (by decide))) (fun k hk a => by
    obtain ⟨w, hw⟩ := d_foldLicence ad h hk a
    refine ⟨w, fun A1 z => (if_neg (by rw [h9]; exact le_f hk (by decide))).trans ((zb_s (hw A1 z)).trans ?_)⟩
    rw [i32_add1]) v2
  obtain ⟨w0, hw0⟩ := d_foldProject ad h (p := 0) (by decide) v3
  obtain ⟨w1, hw1⟩ := d_foldProject ad h (p := 1) (by decide) w0
  refine ⟨(((w1 * 31) + (zfo (fun k acc => if nowS F G b I A (i32 30) k = A (F (F b 6) 0) k then acc else acc + 1) n (0 : Int32)).toInt64) * 31) + (zfo (fun k acc => if nowS F G b I A (i32 90) k = A (F (F b 6) 0) k then acc else acc + 1) n (0 : Int32)).toInt64, fun A1 q => ?_⟩
  obtain ⟨B1, f1, q1⟩ := hw0 A1 q
  obtain ⟨B2, f2, q2⟩ := hw1 B1 q1
  obtain ⟨B3, f3, q3⟩ := s_boundWith ad h (m := 30) (by decide) (by decide) B2 q2
  obtain ⟨B4, f4, q4⟩ := s_boundWith ad h (m := 90) (by decide) (by decide) B3 q3
  have e76 : zIt (fun x => g_X5_digest_76 F G b x.1 x.2.1 x.2.2 I) 2000 (v3, i32 0, A1) = some (w1, i32 2, B2) := by
    have s0 : g_X5_digest_76 F G b v3 (i32 0) A1 I = some (.inl (w0, i32 1, B1)) := (if_neg (by rw [h10]; exact le_f (by decide) (by decide))).trans ((zb2_s f1).trans (by rw [i32_add1]))
    have s1 : g_X5_digest_76 F G b w0 (i32 1) B1 I = some (.inl (w1, i32 2, B2)) := (if_neg (by rw [h10]; exact le_f (by decide) (by decide))).trans ((zb2_s f2).trans (by rw [i32_add1]))
    have s2 : g_X5_digest_76 F G b w1 (i32 2) B2 I = some (.inr (w1, i32 2, B2)) := if_pos (by rw [h10]; exact le_t (Nat.le_refl 2) (by decide))
    have st : ∀ (N : Nat) (x y : Int64 × Int32 × zH), g_X5_digest_76 F G b x.1 x.2.1 x.2.2 I = some (.inl y) → zIt (fun x => g_X5_digest_76 F G b x.1 x.2.1 x.2.2 I) (N + 1) x = zIt (fun x => g_X5_digest_76 F G b x.1 x.2.1 x.2.2 I) N y := fun N x y hx => by
      rw [zIt, hx]
    have fi : ∀ (N : Nat) (x y : Int64 × Int32 × zH), g_X5_digest_76 F G b x.1 x.2.1 x.2.2 I = some (.inr y) → zIt (fun x => g_X5_digest_76 F G b x.1 x.2.1 x.2.2 I) (N + 1) x = some y := fun N x y hx => by
      rw [zIt, hx]
    exact (st 1999 (v3, i32 0, A1) _ s0).trans ((st 1998 (w0, i32 1, B1) _ s1).trans (fi 1997 (w1, i32 2, B2) _ s2))
  exact ⟨B4, (zb2_s (hv1 A1 q)).trans ((zb2_s (hv2 A1 q)).trans ((zb2_s (hv3 A1 q)).trans ((zb3_s e76).trans ((zb2_s f3).trans ((zb_s (s_fold _ _)).trans ((zb2_s f4).trans ((zb_s (s_fold _ _)).trans rfl))))))), q4⟩
theorem s_isFair (ad : AD F G b ix) (h : Inv F G b n I A) : ∃ A', f_L_isFair F G b I A = some (1, A') := by
  obtain ⟨v, hv⟩ := d_digest ad h
  obtain ⟨A2, e2, q2⟩ := hv A zScr.refl
  have h2 := h.scr ad q2
  obtain ⟨r1, er1⟩ := s_14 h2 (v1 := v)
  obtain ⟨r2, er2⟩ := s_261 h2 (v1 := v)
  obtain ⟨r3, er3⟩ := s_320 h2 (v1 := v)
  obtain ⟨A3, e3, q3⟩ := s_boundWith ad h (m := 60) (by decide) (by decide) A2 q2
  rw [bw60 h] at e3
  obtain ⟨A4, e4, q4⟩ := hv A3 q3
  have hc : lg_cmp v v = 0 := by
    unfold lg_cmp
    simp
  exact ⟨A4, (zb2_s e2).trans ((zb_s (s_many1 h2)).trans ((zb_s er1).trans ((zb_s er2).trans ((zb_s er3).trans ((zb_s (s_many10 h2)).trans ((zb2_s e3).trans ((if_pos rfl).trans ((zb2_s e4).trans (if_pos hc)))))))))⟩
theorem s_law (ad : AD F G b ix) (h : St F G b 0 I A) {Ln : Nat} {xs : Nat → Int32} (hL : Ln ≤ 260) : ∃ I' A', f_L_law F G Ln xs b I A = some (I', A') := by
  obtain ⟨I1, A1, e1, s1⟩ := s_lic4 ad h (xs := xs) hL
  obtain ⟨I2, I3, e2, e3, h3⟩ := s_projects ad s1
  obtain ⟨n', I4, A4, e4, h4⟩ := s_loop ad h3 (xs := xs) hL
  obtain ⟨A5, e5⟩ := s_isFair ad h4
  exact ⟨I4, A5, (zb3_s e1).trans ((zb2_s e2).trans ((if_pos rfl).trans ((zb2_s e3).trans ((if_pos rfl).trans ((zb3_s e4).trans ((zb2_s e5).trans (zck_s rfl)))))))⟩
end ZDG
theorem z_pure : ∀ (L : List Nat), L.length = 130 → zNd L → ∀ (Ln : Nat) (xs : Nat → Int32), Ln ≤ 260 → ∃ I A : zH, f_L_law (zFF L) (zGG L) Ln xs (zad L 0) (zI0 L) (zA0 L) = some (I, A) := fun L hl hN Ln xs hL => s_law (z_AD hN hl) (z_St hN hl) hL
