/-! what is the same whatever stands in scratch -/
theorem det_loop {α : Type} {T : zH → Prop} (B : zH → α × Int32 → Option ((α × Int32) ⊕ (α × Int32))) (n : Nat) (hn : n < 1999) (h0 : ∀ A1, T A1 → ∀ a, B A1 (a, i32 n) = some (.inr (a, i32 n))) (hs : ∀ k, k < n → ∀ a, ∃ a', ∀ A1, T A1 → B A1 (a, i32 k) = some (.inl (a', i32 (k + 1)))) (a : α) : ∃ v, ∀ A1, T A1 → zIt (B A1) 2000 (a, i32 0) = some (v, i32 n) := by
  have key : ∀ m k N, k + m = n → m < N → ∀ a, ∃ v, ∀ A1, T A1 → zIt (B A1) N (a, i32 k) = some (v, i32 n) := by
    intro m
    induction m with
    | zero =>
      intro k N hk hN a
      obtain ⟨N, rfl⟩ : ∃ M, N = M + 1 := ⟨N - 1, by omega⟩
      have : k = n := by omega
      subst this
      exact ⟨a, fun A1 h => by unfold zIt; rw [h0 A1 h a]⟩
    | succ m ih =>
      intro k N hk hN a
      obtain ⟨N, rfl⟩ : ∃ M, N = M + 1 := ⟨N - 1, by omega⟩
      obtain ⟨a', ha⟩ := hs k (by omega) a
      obtain ⟨v, hv⟩ := ih (k + 1) N (by omega) (by omega) a'
      exact ⟨v, fun A1 h => by unfold zIt; rw [ha A1 h]; exact hv A1 h⟩
  exact key n 0 2000 (by omega) (by omega) a
section ZDT
variable {F G : Nat → Nat → Nat} {I A : zH} {b n : Nat} {ix : Nat → Nat}
theorem zScr.og {A1 : zH} (ad : AD F G b ix) (h : zScr F G b A A1) : A1 (F b 3) = A (F b 3) := h _ (fun j hj => ad_ne ad.og (ad.sp hj) (by omega)) (fun p hp => ad_ne ad.og (ad.pa hp (by decide : 3 < 4)) (by omega))
theorem zScr.bd {A1 : zH} (ad : AD F G b ix) (h : zScr F G b A A1) {j : Nat} (hj : j < 4) : A1 (F (F b 6) j) = A (F (F b 6) j) := h _ (fun i hi => ad_ne (ad.bd hj) (ad.sp hi) (by omega)) (fun p hp => ad_ne (ad.bd hj) (ad.pa hp (by decide : 3 < 4)) (by omega))
theorem zScr.sh {A1 : zH} (ad : AD F G b ix) (h : zScr F G b A A1) {i : Nat} (hi : i < 16) : A1 (G (F b 2) i) = A (G (F b 2) i) := h _ (fun j hj => ad_ne (ad.sh hi) (ad.sp hj) (by omega)) (fun p hp => ad_ne (ad.sh hi) (ad.pa hp (by decide : 3 < 4)) (by omega))
theorem zScr.pa {A1 : zH} (ad : AD F G b ix) (h : zScr F G b A A1) {p j : Nat} (hp : p < 5) (hj : j < 3) : A1 (F (G (F b 5) p) j) = A (F (G (F b 5) p) j) := h _ (fun i hi => ad_ne (ad.pa hp (by omega : j < 4)) (ad.sp hi) (by omega)) (fun q hq => ad_ne (ad.pa hp (by omega : j < 4)) (ad.pa hq (by decide : 3 < 4)) (by omega))
theorem zScr.trans {A1 A2 : zH} (h : zScr F G b A A1) (h2 : zScr F G b A1 A2) : zScr F G b A A2 := fun a q1 q2 => (h2 a q1 q2).trans (h a q1 q2)
theorem d_ofPiece (ad : AD F G b ix) (h : Inv F G b n I A) {i w : Nat} (hi : i < n) (hw : w < 8) : ∃ v, ∀ A1, zScr F G b A A1 → f_X5_ofPiece F G b (i32 i) (i32 w) I A1 = some v := by
  match w, hw with
  | 0, _ => exact ⟨_, fun A1 hs => s_op0 (h.scr ad hs) hi⟩
  | 1, _ => exact ⟨_, fun A1 hs => s_op1 (h.scr ad hs) hi⟩
  | 2, _ => exact ⟨_, fun A1 hs => s_op2 (h.scr ad hs) hi⟩
  | 3, _ => exact ⟨A (F (F b 6) 0) i, fun A1 hs => by rw [← zScr.bd ad hs (by decide : 0 < 4)]; exact s_op3 (h.scr ad hs) hi⟩
  | 4, _ => exact ⟨_, fun A1 hs => s_op4 (h.scr ad hs) hi⟩
  | 5, _ => exact ⟨A (F b 3) i, fun A1 hs => by rw [← zScr.og ad hs]; exact s_op5 (h.scr ad hs) hi⟩
  | 6, _ => exact ⟨offv (A (F b 3)) i n, fun A1 hs => by rw [← zScr.og ad hs]; exact s_op6 (h.scr ad hs) hi⟩
  | 7, _ => exact ⟨usevs F G b I A i, fun A1 hs => by
      have e : usevs F G b I A i = usevs F G b I A1 i := zfo_cg (fun p a hp => by rw [zScr.pa ad hs (by omega : p < 5) (by decide : 2 < 3)]) 0
      rw [e]
      exact s_op7 (h.scr ad hs) hi⟩
theorem d_ofLicence (ad : AD F G b ix) (h : Inv F G b n I A) {l w : Nat} (hl : l < 4) (hw : w < 6) : ∃ v, ∀ A1, zScr F G b A A1 → f_X5_ofLicence F G b (i32 l) (i32 w) I A1 = some v := by
  match w, hw with
  | 0, _ => exact ⟨_, fun A1 hs => (s_olI (h.scr ad hs) hl).1⟩
  | 1, _ => exact ⟨_, fun A1 hs => (s_olI (h.scr ad hs) hl).2.1⟩
  | 2, _ => exact ⟨_, fun A1 hs => (s_olI (h.scr ad hs) hl).2.2⟩
  | 3, _ => exact ⟨_, fun A1 hs => s_ol3 (h.scr ad hs) hl⟩
  | 4, _ => exact ⟨_, fun A1 hs => s_ol4 (h.scr ad hs) hl⟩
  | 5, _ => exact ⟨pbv (A (F (F b 6) 0)) n l, fun A1 hs => by rw [← zScr.bd ad hs (by decide : 0 < 4)]; exact s_ol5 (h.scr ad hs) hl⟩
theorem cntP_scr (ad : AD F G b ix) {A1 : zH} (hs : zScr F G b A A1) {p : Nat} (hp : p < 5) : cntP F G b p I A1 = cntP F G b p I A := by
  unfold cntP
  rw [zScr.pa ad hs hp (by decide : 1 < 3), zScr.pa ad hs hp (by decide : 2 < 3), zScr.bd ad hs (by decide : 0 < 4), zScr.bd ad hs (by decide : 2 < 4), zScr.bd ad hs (by decide : 3 < 4)]
theorem clsP_scr (ad : AD F G b ix) {A1 : zH} (hs : zScr F G b A A1) {p : Nat} (hp : p < 5) : clsP F G b p I A1 = clsP F G b p I A := by
  unfold clsP
  rw [zScr.pa ad hs hp (by decide : 1 < 3), zScr.pa ad hs hp (by decide : 2 < 3), zScr.bd ad hs (by decide : 0 < 4), zScr.bd ad hs (by decide : 2 < 4), zScr.bd ad hs (by decide : 3 < 4)]
theorem d_ofProject (ad : AD F G b ix) (h : Inv F G b n I A) {p w : Nat} (hp : p < 2) (hw : w < 7) : ∃ v, ∀ A1, zScr F G b A A1 → f_X5_ofProject F G b (i32 p) (i32 w) I A1 = some v := by
  have hp5 : p < 5 := by omega
  match w, hw with
  | 0, _ => exact ⟨_, fun A1 hs => s_of0 (h.scr ad hs) hp⟩
  | 1, _ => exact ⟨_, fun A1 hs => s_of1 (h.scr ad hs) hp⟩
  | 2, _ => exact ⟨cntP F G b p I A, fun A1 hs => by rw [← cntP_scr ad hs hp5]; exact s_of2 (h.scr ad hs) hp⟩
  | 3, _ => exact ⟨dutv (I (G (F b 5) p) 4) (A (F (G (F b 5) p) 2)) (A (F (F b 6) 1)) (I (G (F b 5) p) 5), fun A1 hs => by rw [← zScr.pa ad hs hp5 (by decide : 2 < 3), ← zScr.bd ad hs (by decide : 1 < 4)]; exact s_of3 (h.scr ad hs) hp⟩
  | 4, _ => exact ⟨_, fun A1 hs => s_of4 (h.scr ad hs) hp⟩
  | 5, _ => exact ⟨_, fun A1 hs => s_of5 (h.scr ad hs) hp⟩
  | 6, _ => exact ⟨_, fun A1 hs => s_of6 (h.scr ad hs) hp⟩
theorem d_ofNode (ad : AD F G b ix) (h : Inv F G b n I A) {p q w : Nat} (hp : p < 2) (hq : q < 10) (hnode : hb (I (G (F b 5) p) 4) q = true) (hw : w < 5) : ∃ v, ∀ A1, zScr F G b A A1 → f_X5_ofNode F G b (i32 p) (i32 q) (i32 w) I A1 = some v := by
  have hp5 : p < 5 := by omega
  match w, hw with
  | 0, _ => exact ⟨A (F (G (F b 5) p) 0) q, fun A1 hs => by rw [← zScr.pa ad hs hp5 (by decide : 0 < 3)]; exact (s_on (h.scr ad hs) hp hq hnode).1⟩
  | 1, _ => exact ⟨A (F (G (F b 5) p) 2) q, fun A1 hs => by rw [← zScr.pa ad hs hp5 (by decide : 2 < 3)]; exact (s_on (h.scr ad hs) hp hq hnode).2.1⟩
  | 2, _ => exact ⟨pv (A (F (F b 6) 0)) (A (F (G (F b 5) p) 2) q), fun A1 hs => by rw [← zScr.pa ad hs hp5 (by decide : 2 < 3), ← zScr.bd ad hs (by decide : 0 < 4)]; exact (s_on (h.scr ad hs) hp hq hnode).2.2.1⟩
  | 3, _ => exact ⟨clsP F G b p I A q, fun A1 hs => by rw [← clsP_scr ad hs hp5]; exact (s_on (h.scr ad hs) hp hq hnode).2.2.2.1⟩
  | 4, _ => exact ⟨bcv (A (F (G (F b 5) p) 1) q), fun A1 hs => by rw [← zScr.pa ad hs hp5 (by decide : 1 < 3)]; exact (s_on (h.scr ad hs) hp hq hnode).2.2.2.2⟩
theorem d_share (ad : AD F G b ix) (h : Inv F G b n I A) {i j : Nat} (hi : i < n) (hj : j < n) : ∃ v, ∀ A1, zScr F G b A A1 → f_X5_share F G b (i32 i) (i32 j) I A1 = some v := ⟨shv F G b A i j, fun A1 hs => by
  rw [← shv_cg (fun i hi => zScr.sh ad hs hi) i (by have := h.n16; omega) j]
  exact s_share (h.scr ad hs) hi hj⟩
theorem d_subst (ad : AD F G b ix) (h : Inv F G b n I A) {p q : Nat} (hp : p < 2) (hq : q < 10) (hnode : hb (I (G (F b 5) p) 4) q = true) : ∃ v, ∀ A1, zScr F G b A A1 → f_X5_substitute F G b (i32 p) (i32 q) I A1 = some v := by
  have hp5 : p < 5 := by omega
  have hn := h.n16
  rcases s_subst h hp hq hnode with ⟨e, -⟩ | ⟨c, hc, e, -⟩
  · refine ⟨-1, fun A1 hs => ?_⟩
    rcases s_subst (h.scr ad hs) hp hq hnode with ⟨-, e2⟩ | ⟨c, hc, e2, -⟩
    · exact e2
    · rw [zScr.pa ad hs hp5 (by decide : 2 < 3), e] at e2
      exact absurd e2.symm (i32_ne (by omega))
  · refine ⟨(zfo (subst1 (shv F G b A c) (fun k => clv (I (G (F b 5) p) 4) (A (F (G (F b 5) p) 1)) (A (F (G (F b 5) p) 2)) (A (F (F b 6) 0)) (A (F (F b 6) 2)) (A (F (F b 6) 3)) q (i32 k)) c) n (-1, -1)).1, fun A1 hs => ?_⟩
    rcases s_subst (h.scr ad hs) hp hq hnode with ⟨e2, -⟩ | ⟨c', hc', e2, e3⟩
    · rw [zScr.pa ad hs hp5 (by decide : 2 < 3), e] at e2
      exact absurd e2 (i32_ne (by omega))
    · rw [zScr.pa ad hs hp5 (by decide : 2 < 3), e] at e2
      have : c' = c := (i32_inj (by omega) (by omega)).mp e2.symm
      subst this
      rw [zScr.pa ad hs hp5 (by decide : 2 < 3), zScr.pa ad hs hp5 (by decide : 1 < 3), zScr.bd ad hs (by decide : 0 < 4), zScr.bd ad hs (by decide : 2 < 4), zScr.bd ad hs (by decide : 3 < 4), show shv F G b A1 c' = shv F G b A c' from funext fun j => shv_cg (fun i hi => zScr.sh ad hs hi) c' (by omega) j] at e3
      exact e3
end ZDT
