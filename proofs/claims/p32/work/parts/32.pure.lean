/-! what is asked of a project; tell, and what it would recall -/
section ZTL
variable {F G : Nat → Nat → Nat} {I A : zH} {b n : Nat} {ix : Nat → Nat}
theorem clashB_cg {S R W S' R' W' : Nat → Int32} {p q : Int32} {far : Bool} (hn : n ≤ 16) (h : ∀ j, j < n → S j = S' j ∧ R j = R' j ∧ W j = W' j) (hp : pcIn n p) (hq : pcIn n q) : clashB S R W p q far = clashB S' R' W' p q far := by
  unfold clashB
  rcases hp with rfl | ⟨k, hk, rfl⟩
  · simp
  · rcases hq with rfl | ⟨j, hj, rfl⟩
    · simp
    · rw [i32_nat (by omega), i32_nat (by omega), (h j hj).1, (h k hk).2.1, (h k hk).2.2]
theorem clv_cg {nd : Int32} {ab con S R W S' R' W' : Nat → Int32} {a : Nat} {p : Int32} (hn : n ≤ 16) (h : ∀ j, j < n → S j = S' j ∧ R j = R' j ∧ W j = W' j) (hc : ∀ k, k < 10 → hb nd k = true → pcIn n (con k)) (hp : pcIn n p) : clv nd ab con S R W a p = clv nd ab con S' R' W' a p := zset_cg fun k hk => by
  cases hnd : hb nd k with
  | false => rfl
  | true =>
    rw [Bool.true_and, Bool.true_and]
    refine clashB_cg hn h hp ?_
    split
    · exact hp
    · exact hc k hk hnd
theorem cntv_cg {nd : Int32} {ab con S R W S' R' W' : Nat → Int32} (hn : n ≤ 16) (h : ∀ j, j < n → S j = S' j ∧ R j = R' j ∧ W j = W' j) (hc : ∀ k, k < 10 → hb nd k = true → pcIn n (con k)) : cntv nd ab con S R W = cntv nd ab con S' R' W' := by
  have key : ∀ (k : Nat) (acc : Int32), k < 10 → (if hb nd k then acc + bcv (clv nd ab con S R W k (con k) &&& (((2 : Int32) <<< (i32 k &&& 31)) - 1)) else acc) = (if hb nd k then acc + bcv (clv nd ab con S' R' W' k (con k) &&& (((2 : Int32) <<< (i32 k &&& 31)) - 1)) else acc) := fun k a hk => by
    by_cases hnd : hb nd k = true
    · rw [clv_cg hn h hc (hc k hk hnd)]
    · rw [if_neg hnd, if_neg hnd]
  unfold cntv
  exact zfo_cg key 0
theorem dutv_cg {nd notes : Int32} {con K K' : Nat → Int32} (hn : n ≤ 16) (h : ∀ j, j < n → K j = K' j) (hc : ∀ k, k < 10 → hb nd k = true → pcIn n (con k)) : dutv nd con K notes = dutv nd con K' notes := by
  have key : ∀ (k : Nat) (a : Int32), k < 10 → (if hb nd k then a ||| pv K (con k) else a) = (if hb nd k then a ||| pv K' (con k) else a) := fun k a hk => by
    by_cases hnd : hb nd k = true
    · have : pv K (con k) = pv K' (con k) := by
        unfold pv
        rcases hc k hk hnd with e | ⟨j, hj, e⟩
        · rw [if_pos e, if_pos e]
        · rw [e, i32_nat (by omega), h j hj]
      rw [this]
    · rw [if_neg hnd, if_neg hnd]
  have e : zfo (fun k acc => if hb nd k then acc ||| pv K (con k) else acc) 10 0 = zfo (fun k acc => if hb nd k then acc ||| pv K' (con k) else acc) 10 0 := zfo_cg key 0
  unfold dutv
  rw [e]
theorem ordB_cg {nd notes : Int32} {ab con S K R W S' K' R' W' : Nat → Int32} (hn : n ≤ 16) (h : ∀ j, j < n → S j = S' j ∧ K j = K' j ∧ R j = R' j ∧ W j = W' j) (hc : ∀ k, k < 10 → hb nd k = true → pcIn n (con k)) : ordB nd ab con S K R W notes = ordB nd ab con S' K' R' W' notes := by
  unfold ordB
  rw [dutv_cg hn (fun j hj => (h j hj).2.1) hc, cntv_cg hn (fun j hj => ⟨(h j hj).1, (h j hj).2.2.1, (h j hj).2.2.2⟩) hc]
theorem s_of0 (h : Inv F G b n I A) {p : Nat} (hp : p < 2) : f_X5_ofProject F G b (i32 p) 0 I A = some (I (G (F b 5) p) 6) := by
  unfold f_X5_ofProject
  refine (zb_s (s_needProject h.1.1.2.2.2.1 hp)).trans ((zck_s (i32_in (by omega : p < 5) (by decide))).trans ((if_pos rfl).trans ?_))
  rw [i32_nat (by omega)]
theorem s_of1 (h : Inv F G b n I A) {p : Nat} (hp : p < 2) : f_X5_ofProject F G b (i32 p) 1 I A = some (bcv (I (G (F b 5) p) 4)) := by
  unfold f_X5_ofProject
  refine (zb_s (s_needProject h.1.1.2.2.2.1 hp)).trans ((zck_s (i32_in (by omega : p < 5) (by decide))).trans ((if_neg (by decide)).trans ((if_pos rfl).trans ?_)))
  rw [i32_nat (by omega)]
  exact zb_s (s_bc _)
theorem s_of2 (h : Inv F G b n I A) {p : Nat} (hp : p < 2) : f_X5_ofProject F G b (i32 p) 2 I A = some (cntv (I (G (F b 5) p) 4) (A (F (G (F b 5) p) 1)) (A (F (G (F b 5) p) 2)) (A (F (F b 6) 0)) (A (F (F b 6) 2)) (A (F (F b 6) 3))) := by
  unfold f_X5_ofProject
  refine (zb_s (s_needProject h.1.1.2.2.2.1 hp)).trans ((zck_s (i32_in (by omega : p < 5) (by decide))).trans ((if_neg (by decide)).trans ((if_neg (by decide)).trans ((if_pos rfl).trans ?_))))
  rw [i32_nat (by omega)]
  exact zb_s (s_countClashes (h.1.2.2.2.2.2.2.con h.n16 hp))
theorem s_of3 (h : Inv F G b n I A) {p : Nat} (hp : p < 2) : f_X5_ofProject F G b (i32 p) 3 I A = some (dutv (I (G (F b 5) p) 4) (A (F (G (F b 5) p) 2)) (A (F (F b 6) 1)) (I (G (F b 5) p) 5)) := by
  unfold f_X5_ofProject
  refine (zb_s (s_needProject h.1.1.2.2.2.1 hp)).trans ((zck_s (i32_in (by omega : p < 5) (by decide))).trans ((if_neg (by decide)).trans ((if_neg (by decide)).trans ((if_neg (by decide)).trans ((if_pos rfl).trans ?_)))))
  rw [i32_nat (by omega)]
  exact zb_s (s_duties (h.1.2.2.2.2.2.2.con h.n16 hp))
theorem s_of4 (h : Inv F G b n I A) {p : Nat} (hp : p < 2) : f_X5_ofProject F G b (i32 p) 4 I A = some (I (G (F b 5) p) 5) := by
  unfold f_X5_ofProject
  refine (zb_s (s_needProject h.1.1.2.2.2.1 hp)).trans ((zck_s (i32_in (by omega : p < 5) (by decide))).trans ((if_neg (by decide)).trans ((if_neg (by decide)).trans ((if_neg (by decide)).trans ((if_neg (by decide)).trans ((if_pos rfl).trans ?_))))))
  rw [i32_nat (by omega)]
theorem s_of5 (h : Inv F G b n I A) {p : Nat} (hp : p < 2) : f_X5_ofProject F G b (i32 p) 5 I A = some (I (G (F b 5) p) 7) := by
  unfold f_X5_ofProject
  refine (zb_s (s_needProject h.1.1.2.2.2.1 hp)).trans ((zck_s (i32_in (by omega : p < 5) (by decide))).trans ((if_neg (by decide)).trans ((if_neg (by decide)).trans ((if_neg (by decide)).trans ((if_neg (by decide)).trans ((if_neg (by decide)).trans ((if_pos rfl).trans ?_)))))))
  rw [i32_nat (by omega)]
theorem s_of6 (h : Inv F G b n I A) {p : Nat} (hp : p < 2) : f_X5_ofProject F G b (i32 p) 6 I A = some (I (G (F b 5) p) 4) := by
  unfold f_X5_ofProject
  refine (zb_s (s_needProject h.1.1.2.2.2.1 hp)).trans ((zck_s (i32_in (by omega : p < 5) (by decide))).trans ((if_neg (by decide)).trans ((if_neg (by decide)).trans ((if_neg (by decide)).trans ((if_neg (by decide)).trans ((if_neg (by decide)).trans ((if_neg (by decide)).trans ((if_pos rfl).trans ?_))))))))
  rw [i32_nat (by omega)]
theorem s_recalledBy (ad : AD F G b ix) (h : Inv F G b n I A) {i l : Nat} (hi : i < n) (hl : l < 4) : ∃ A', f_X5_recalledBy F G b (i32 i) (i32 l) I A = some (zset (rcB F G b (F b 7) I A') 2, A') ∧ (∀ a, (∀ j, j < 4 → a ≠ F (F b 7) j) → A' a = A a) ∧ bdIs F G b (F b 7) n I A' (bsv (ownT (i32 i) (i32 l) (ownv F G b I)) (frv F G b I) (shv F G b A) (i32 60)) := by
  have hn := h.n16
  obtain ⟨A', e, a1, b1⟩ := s_bind (F := F) (G := G) (I := I) (A := A) (b := b) (B := F b 7) (lim := I b 12) (t := i32 i) (l := i32 l) hn h.i8 ad.apB7 ad.shB7
  obtain ⟨c0, c1, c2, c3⟩ := b1 _ rfl
  rw [h.1.1.2.2.2.2] at c0 c1 c2 c3
  have hA : ∀ a, (∀ j, j < 4 → a ≠ F (F b 7) j) → A' a = A a := fun a q => a1 a (q 0 (by decide)) (q 1 (by decide)) (q 2 (by decide)) (q 3 (by decide))
  refine ⟨A', ?_, hA, fun j hj => ?_⟩
  · unfold f_X5_recalledBy
    refine (zb_s (s_needPiece hn h.i8 hi)).trans ((zb_s (s_needLicence h.1.1.2.2.1 hl)).trans ((zb_s e).trans ?_))
    refine zb2_s (zIt_fo (α := Int32) (n := 2) _ (fun _ _ => True) (by decide) (fun acc _ => if_pos (by rw [h.1.1.2.2.2.1]; exact le_t (Nat.le_refl 2) (by decide))) (fun p acc hp _ => ⟨?_, trivial⟩) trivial).1
    refine (if_neg (by rw [h.1.1.2.2.2.1]; exact le_f hp (by decide))).trans ((zck_s (i32_in (by omega : p < 5) (by decide))).trans ?_)
    rw [i32_nat (by omega)]
    have hc : conOk (I (G (F b 5) p) 4) (A' (F (G (F b 5) p) 2)) := by
      rw [hA _ (fun j hj => ad_ne (ad.pa (by omega : p < 5) (by decide : 2 < 4)) (ad.sp hj) (by omega))]
      exact h.1.2.2.2.2.2.2.con hn hp
    refine (zb_s (s_isRecalledUnder hc)).trans ?_
    rw [i32_add1]
    show (if bit1 (rcB F G b (F b 7) I A' p) = 0 then _ else _) = _
    cases rcB F G b (F b 7) I A' p <;> rfl
  · rw [c0, c1, c2, c3, if_pos hj, if_pos hj, if_pos hj, if_pos hj]
    exact ⟨rfl, rfl, rfl, rfl⟩
theorem Inv.own (ad : AD F G b ix) (h : Inv F G b n I A) {i : Nat} {v : Int32} (hi : i < n) (hv : v = -1 ∨ ∃ l, l < 4 ∧ v = i32 l) : Pre F G b n (up2 I (G (F b 1) i) 1 v) A := by
  obtain ⟨⟨h1, h2, h3, h4, h5, h6, h7⟩, -⟩ := h
  have hi16 : i < 16 := by have := h1.1; omega
  have iO : ∀ a, a ≠ G (F b 1) i → up2 I (G (F b 1) i) 1 v a = I a := fun a q => up2_f _ _ _ q
  refine ⟨h1.cg (fun k _ _ => by rw [iO _ (ad_ne ad.b0 (ad.pc hi16) (by omega))]), h2.cg (fun _ _ => by rw [iO _ (ad_ne ad.d (ad.pc hi16) (by omega))]) rfl, h3.cg (fun j hj => iO _ (ad_ne (ad.pr (by have := h1.1; omega : j < 16)) (ad.pc hi16) (by omega))) (fun _ _ => rfl) (fun _ _ => rfl), h4, fun j hj => ?_, h6.cg (fun l hl => by rw [iO _ (ad_ne (ad.lc hl) (ad.pc hi16) (by omega))]), h7.cg (fun p hp => by rw [iO _ (ad_ne (ad.pj (by omega : p < 5)) (ad.pc hi16) (by omega))]) (fun _ _ => rfl)⟩
  unfold ownv
  by_cases hji : j = i
  · subst hji
    rw [up2_at]
    exact hv
  · rw [iO _ (ad_ne (ad.pc hj) (ad.pc hi16) (by omega))]
    exact h5 j hj
theorem s_tell (ad : AD F G b ix) (h : Inv F G b n I A) {i l : Nat} (hi : i < n) (hl : l < 4) : ∃ I' A', f_X5_tell F G b (i32 i) (i32 l) I A = some (cnum (rcB F G b (F b 6) I A') 2, I', A') ∧ Inv F G b n I' A' ∧ I' (G (F b 1) i) 1 = i32 l ∧ (∀ a, a ≠ F b 3 → (∀ j, j < 4 → a ≠ F (F b 6) j) → A' a = A a) ∧ bdIs F G b (F b 6) n I A' (nowS F G b (up2 I (G (F b 1) i) 1 (i32 l)) A (i32 60)) ∧ (∀ p, p < 2 → I' (G (F b 5) p) 7 = if rcB F G b (F b 6) I A' p then I (G (F b 5) p) 7 + 1 else I (G (F b 5) p) 7) := by
  have hn := h.n16
  have hi16 : i < 16 := by omega
  obtain ⟨I', A', e, p1, p2, a1, b1, -, i1, i2, i3⟩ := settle_inv ad (h.own ad hi (Or.inr ⟨l, hl, rfl⟩))
  have iO : ∀ a, a ≠ G (F b 1) i → up2 I (G (F b 1) i) 1 (i32 l) a = I a := fun a q => up2_f _ _ _ q
  have iP : ∀ p, p < 5 → up2 I (G (F b 1) i) 1 (i32 l) (G (F b 5) p) = I (G (F b 5) p) := fun p hp => iO _ (ad_ne (ad.pj hp) (ad.pc hi16) (by omega))
  have hrc : ∀ p, p < 2 → rcB F G b (F b 6) (up2 I (G (F b 1) i) 1 (i32 l)) A' p = rcB F G b (F b 6) I A' p := fun p hp => rcB_cg (by rw [iP p (by omega)]) (by rw [iP p (by omega)]) (by rw [iP p (by omega)]) rfl rfl (fun _ _ => rfl)
  have hcn : cnum (rcB F G b (F b 6) (up2 I (G (F b 1) i) 1 (i32 l)) A') 2 = cnum (rcB F G b (F b 6) I A') 2 := zfo_cg (fun p a hp => by rw [hrc p hp]) _
  rw [hcn] at e
  refine ⟨I', A', ?_, ⟨p1, p2⟩, ?_, a1, b1.cg (fun _ _ => rfl) (fun l hl k _ => by rw [iO _ (ad_ne (ad.lc hl) (ad.pc hi16) (by omega))]) (fun _ _ => rfl), fun p hp => ?_⟩
  · unfold f_X5_tell
    refine (zb_s (s_needPiece hn h.i8 hi)).trans ((if_neg (i32_ne (by omega))).trans ((zb_s (s_needLicence h.1.1.2.2.1 hl)).trans ((zck_s (i32_in hi16 (by decide))).trans ?_)))
    rw [i32_nat (by omega)]
    unfold zlet
    exact zb3_s e
  · rw [i1 _ _ (Or.inl fun p hp => ad_ne (ad.pc hi16) (ad.pj (by omega)) (by omega))]
    exact up2_at _ _ _ _
  · rw [i3 p hp, hrc p hp, iP p (by omega)]
theorem z_bc2 (c : Nat → Bool) : bcv (zset c 2) = cnum c 2 := by
  have h : ∀ x y : Bool, bcv (zset (fun k => if k = 0 then x else y) 2) = cnum (fun k => if k = 0 then x else y) 2 := by decide +kernel
  have e1 : zset c 2 = zset (fun k => if k = 0 then c 0 else c 1) 2 := zset_cg (fun k hk => by
    match k, hk with
    | 0, _ => rfl
    | 1, _ => rfl)
  have e2 : cnum c 2 = cnum (fun k => if k = 0 then c 0 else c 1) 2 := zfo_cg (fun k a hk => by
    match k, hk with
    | 0, _ => rfl
    | 1, _ => rfl) _
  rw [e1, e2, h]
theorem z_sum2 (c : Nat → Bool) (x y : Int32) : (if c 0 then x + 1 else x) + (if c 1 then y + 1 else y) = (x + y) + cnum c 2 := by
  have e : cnum c 2 = if c 1 then (if c 0 then 0 + 1 else 0) + 1 else (if c 0 then 0 + 1 else 0) := rfl
  rw [e]
  have h11 : (0 : Int32) + 1 + 1 = 1 + 1 := by decide
  have h01 : (0 : Int32) + 1 = 1 := by decide
  cases c 0 <;> cases c 1
  · simp
  · show x + (y + 1) = x + y + (0 + 1)
    rw [h01]
    ac_rfl
  · show x + 1 + y = x + y + (0 + 1)
    rw [h01]
    ac_rfl
  · show x + 1 + (y + 1) = x + y + (0 + 1 + 1)
    rw [h11]
    ac_rfl
/-- case 2 of the law's switch -/
theorem s_case2 (ad : AD F G b ix) (h : Inv F G b n I A) {i l : Nat} (hi : i < n) (hl : l < 4) : ∃ r A1 I' A', f_X5_recalledBy F G b (i32 i) (i32 l) I A = some (r, A1) ∧ Inv F G b n I A1 ∧ f_X5_tell F G b (i32 i) (i32 l) I A1 = some (bcv r, I', A') ∧ Inv F G b n I' A' ∧ I' (G (F b 5) 0) 7 + I' (G (F b 5) 1) 7 = (I (G (F b 5) 0) 7 + I (G (F b 5) 1) 7) + bcv r ∧ I' (G (F b 1) i) 1 = i32 l := by
  have hn := h.n16
  have hi16 : i < 16 := by omega
  obtain ⟨A1, e1, a1, b1⟩ := s_recalledBy ad h hi hl
  have h1 : Inv F G b n I A1 := by
    obtain ⟨q1, q2⟩ := h.1.q ad (I' := I) (A' := A1) (fun _ _ _ => rfl) (fun a z _ _ _ => a1 a z) (h.1.2.1.cg (fun _ _ => rfl) (a1 _ (fun j hj => ad_ne ad.dt (ad.sp hj) (by omega))))
    exact ⟨q1, q2 h.2⟩
  obtain ⟨I', A', e2, h2, o1, a2, b2, s7⟩ := s_tell ad h1 hi hl
  have hS : ∀ j, j < n → bsv (ownT (i32 i) (i32 l) (ownv F G b I)) (frv F G b I) (shv F G b A) (i32 60) j = nowS F G b (up2 I (G (F b 1) i) 1 (i32 l)) A1 (i32 60) j := by
    refine bsv_cg (fun j hj => ?_) (fun j hj => ?_) (fun j k hj hk => ?_)
    · unfold ownT ownv
      by_cases hji : j = i
      · subst hji
        rw [if_pos rfl, up2_at]
      · rw [if_neg (fun q => hji ((i32_inj (by omega) (by omega)).mp q)), up2_a _ _ _ _ (ad_ne (ad.pc (by omega : j < 16)) (ad.pc hi16) (by omega))]
    · unfold frv
      by_cases hji : j = i
      · subst hji
        rw [up2_k _ _ _ (by decide)]
      · rw [up2_a _ _ _ _ (ad_ne (ad.pc (by omega : j < 16)) (ad.pc hi16) (by omega))]
    · have hj16 : j < 16 := by omega
      unfold shv
      rw [a1 _ (fun m hm => ad_ne (ad.sh hj16) (ad.sp hm) (by omega))]
  have hrc : ∀ p, p < 2 → rcB F G b (F b 7) I A1 p = rcB F G b (F b 6) I A' p := fun p hp => by
    have hp5 : p < 5 := by omega
    unfold rcB
    have aP : ∀ j, j < 4 → A' (F (G (F b 5) p) j) = A1 (F (G (F b 5) p) j) := fun j hj => a2 _ (ad_ne (ad.pa hp5 hj) ad.og (by omega)) (fun m hm => ad_ne (ad.pa hp5 hj) (ad.bd hm) (by omega))
    rw [aP 1 (by decide), aP 2 (by decide)]
    congr 2
    refine ordB_cg hn (fun j hj => ?_) (h1.1.2.2.2.2.2.2 p hp).2
    obtain ⟨c0, c1, c2, c3⟩ := b1 j hj
    obtain ⟨d0, d1, d2, d3⟩ := b2 j hj
    rw [c0, c1, c2, c3, d0, d1, d2, d3, hS j hj]
    exact ⟨rfl, rfl, rfl, rfl⟩
  have ez : zset (rcB F G b (F b 7) I A1) 2 = zset (rcB F G b (F b 6) I A') 2 := zset_cg hrc
  rw [ez] at e1
  refine ⟨_, A1, I', A', e1, h1, ?_, h2, ?_, o1⟩
  · rw [z_bc2]
    exact e2
  · rw [s7 0 (by decide), s7 1 (by decide), z_bc2]
    exact z_sum2 _ _ _
end ZTL
