/-! clashes go both ways; the remedy -/
theorem hb_fold (g : Nat → Int32) (s : Int32) (n m : Nat) : hb (zfo (fun k acc => if hb s k then acc ||| g k else acc) n 0) m = (List.range n).any fun l => hb s l && hb (g l) m := by
  induction n with
  | zero => exact hb_zero m
  | succ n ih =>
    rw [List.range_succ, List.any_append, ← ih]
    show hb (if hb s n then zfo _ n 0 ||| g n else zfo _ n 0) m = _
    cases h : hb s n
    · simp [h]
    · simp [h, hb_or]
theorem hb_stv (st : Nat → Int32) (m : Nat) : hb (stv st) m = (decide (m < 6) && !(decide (st m = 0))) := by
  have e : stv st = zset (fun k => !(decide (st k = 0))) 6 := zfo_cg (fun k a _ => by
    by_cases h : st k = 0
    · have e : (!(decide (st k = 0))) = false := by rw [decide_eq_true h]; rfl
      refine (if_pos h).trans (Int32.or_zero.trans (if_neg ?_).symm)
      show ¬ (!(decide (st k = 0))) = true
      rw [e]
      decide
    · have e : (!(decide (st k = 0))) = true := by rw [decide_eq_false h]; rfl
      exact (if_neg h).trans (if_pos e).symm) 0
  rw [e, hb_zset _ (by decide)]
theorem any6 {c : Nat → Bool} : ((List.range 6).any c) = true ↔ ∃ l, l < 6 ∧ c l = true := by
  rw [List.any_eq_true]
  exact ⟨fun ⟨l, h1, h2⟩ => ⟨l, List.mem_range.mp h1, h2⟩, fun ⟨l, h1, h2⟩ => ⟨l, List.mem_range.mpr h1, h2⟩⟩
theorem z_and0 {x y : Int32} : ¬ x &&& y = 0 ↔ ∃ m, m < 32 ∧ hb x m = true ∧ hb y m = true := by
  constructor
  · intro h
    obtain ⟨m, hm, h2⟩ := hb_ne h
    rw [hb_and, Bool.and_eq_true] at h2
    exact ⟨m, hm, h2.1, h2.2⟩
  · rintro ⟨m, hm, h1, h2⟩ q
    have := hb_e.mp q m hm
    rw [hb_and, h1, h2] at this
    cases this
section ZSY
variable {riv st : Nat → Int32}
theorem ask_sym (h : ∀ l, l < 6 → hbIn (riv l) 4 ∧ ∀ k, k < 6 → hb (riv l) k = hb (riv k) l) (s t : Int32) : askv riv s &&& t = 0 → askv riv t &&& s = 0 := by
  intro h0
  refine Decidable.byContradiction fun q => ?_
  obtain ⟨m, hm, h1, h2⟩ := z_and0.mp q
  unfold askv at h1
  rw [hb_fold, any6] at h1
  obtain ⟨l, hl, h3⟩ := h1
  rw [Bool.and_eq_true] at h3
  have hm4 : m < 4 := Decidable.byContradiction fun w => by
    have := (h l hl).1 m (by omega)
    rw [this] at h3
    cases h3.2
  refine z_and0.mpr ⟨l, by omega, ?_, h3.1⟩ h0
  unfold askv
  rw [hb_fold, any6]
  refine ⟨m, by omega, ?_⟩
  rw [h2, (h m (by omega)).2 l hl, h3.2]
  rfl
theorem far_sym (h : ∀ l, l < 6 → hbIn (riv l) 4 ∧ ∀ k, k < 6 → hb (riv l) k = hb (riv k) l) (s t : Int32) : farv st riv s &&& t = 0 → farv st riv t &&& s = 0 := by
  intro h0
  refine Decidable.byContradiction fun q => ?_
  obtain ⟨m, hm, h1, h2⟩ := z_and0.mp q
  unfold farv at h1
  rw [hb_fold, any6] at h1
  obtain ⟨l, hl, h3⟩ := h1
  rw [Bool.and_eq_true] at h3
  have h5 : hb (riv l) m = true ∧ (st l = 0 → st m ≠ 0 ∧ m < 6) := by
    by_cases hz : st l = 0
    · rw [if_pos hz, hb_and, Bool.and_eq_true, hb_stv, Bool.and_eq_true] at h3
      refine ⟨h3.2.1, fun _ => ⟨?_, of_decide_eq_true h3.2.2.1⟩⟩
      simpa using h3.2.2.2
    · rw [if_neg hz] at h3
      exact ⟨h3.2, fun w => absurd w hz⟩
  have hm4 : m < 4 := Decidable.byContradiction fun w => by
    have := (h l hl).1 m (by omega)
    rw [this] at h5
    cases h5.1
  have h6 : hb (riv m) l = true := by rw [(h m (by omega)).2 l hl]; exact h5.1
  refine z_and0.mpr ⟨l, by omega, ?_, h3.1⟩ h0
  unfold farv
  rw [hb_fold, any6]
  refine ⟨m, by omega, ?_⟩
  rw [h2, Bool.true_and]
  by_cases hz : st m = 0
  · rw [if_pos hz, hb_and, h6, hb_stv, decide_eq_true hl]
    have : ¬ st l = 0 := fun w => (h5.2 w).1 hz
    rw [decide_eq_false this]
    rfl
  · rw [if_neg hz]
    exact h6
end ZSY
section ZCL
variable {F G : Nat → Nat → Nat} {I A : zH} {b n : Nat} {ix : Nat → Nat}
theorem Inv.sym (h : Inv F G b n I A) : symR (A (F (F b 6) 0)) (A (F (F b 6) 2)) (A (F (F b 6) 3)) n := fun p q hp hq => by
  obtain ⟨c0, c1, c2, c3⟩ := h.2.2.1 p hp
  obtain ⟨d0, d1, d2, d3⟩ := h.2.2.1 q hq
  have hV := h.1.2.2.2.2.2.1
  rw [c0, c2, c3, d0, d2, d3]
  exact ⟨⟨ask_sym hV _ _, ask_sym hV _ _⟩, ⟨far_sym hV _ _, far_sym hV _ _⟩⟩
/-- the clashes of each node of a project -/
def clsP (F G : Nat → Nat → Nat) (b p : Nat) (I A : zH) : Nat → Int32 := clsv (I (G (F b 5) p) 4) (A (F (G (F b 5) p) 1)) (A (F (G (F b 5) p) 2)) (A (F (F b 6) 0)) (A (F (F b 6) 2)) (A (F (F b 6) 3))
def cntP (F G : Nat → Nat → Nat) (b p : Nat) (I A : zH) : Int32 := cntv (I (G (F b 5) p) 4) (A (F (G (F b 5) p) 1)) (A (F (G (F b 5) p) 2)) (A (F (F b 6) 0)) (A (F (F b 6) 2)) (A (F (F b 6) 3))
theorem clv_sym {nd : Int32} {ab con S R W : Nat → Int32} (hn : n ≤ 16) (hs : symR S R W n) (hc : ∀ k, k < 10 → hb nd k = true → pcIn n (con k)) {j k : Nat} (hj : j < 10) (hk : k < 10) (nj : hb nd j = true) (nk : hb nd k = true) : hb (clv nd ab con S R W k (con k)) j = hb (clv nd ab con S R W j (con j)) k := by
  rw [hb_clv, hb_clv, nj, nk, decide_eq_true hj, decide_eq_true hk]
  have e1 : (if j = k then con k else con j) = con j := by
    split
    · rename_i q; rw [q]
    · rfl
  have e2 : (if k = j then con j else con k) = con k := by
    split
    · rename_i q; rw [q]
    · rfl
  rw [e1, e2, farB_sym ab j k, clashB_sym hn hs (hc k hk nk) (hc j hj nj)]
/-- where the count is nothing, nothing is involved, and where it isn't, something is -/
theorem cnt_inv (h : Inv F G b n I A) {p : Nat} (hp : p < 2) : ∃ c, c ≤ 100 ∧ cntP F G b p I A = i32 c ∧ (c = 0 ↔ invv (clsP F G b p I A) = 0) := by
  have hn := h.n16
  obtain ⟨c, h1, h2, h3⟩ := cntv_s (I (G (F b 5) p) 4) (A (F (G (F b 5) p) 1)) (A (F (G (F b 5) p) 2)) (A (F (F b 6) 0)) (A (F (F b 6) 2)) (A (F (F b 6) 3))
  refine ⟨c, h1, h2, h3.trans ?_⟩
  have hc := (h.1.2.2.2.2.2.2 p hp).2
  constructor
  · intro hno
    refine hb_e.mpr fun j hj32 => ?_
    rw [hb_invv, List.any_eq_false]
    intro k hk q
    have hk := List.mem_range.mp hk
    unfold clsP clsv at q
    by_cases nk : hb (I (G (F b 5) p) 4) k = true
    · rw [if_pos nk] at q
      have q2 := q
      rw [hb_clv, Bool.and_eq_true, Bool.and_eq_true] at q2
      have hj := of_decide_eq_true q2.1
      have nj := q2.2.1
      by_cases hjk : j ≤ k
      · rw [hno k hk nk j hjk] at q
        cases q
      · rw [clv_sym hn h.sym hc hj hk nj nk, hno j hj nj k (by omega)] at q
        cases q
    · rw [if_neg nk, hb_zero] at q
      cases q
  · intro hz k hk nk j hjk
    have := hb_e.mp hz j (by omega)
    rw [hb_invv, List.any_eq_false] at this
    have := this k (List.mem_range.mpr hk)
    unfold clsP clsv at this
    rw [if_pos nk] at this
    simpa using this
theorem Inv.ap (ad : AD F G b ix) {p : Nat} (hp : p < 5) : apCl F (G (F b 5) p) (F b 6) := ⟨ad_ne (ad.pa hp (by decide : 1 < 4)) (ad.pa hp (by decide : 3 < 4)) (by omega), ad_ne (ad.pa hp (by decide : 2 < 4)) (ad.pa hp (by decide : 3 < 4)) (by omega), ad_ne (ad.bd (by decide : 0 < 4)) (ad.pa hp (by decide : 3 < 4)) (by omega), ad_ne (ad.bd (by decide : 2 < 4)) (ad.pa hp (by decide : 3 < 4)) (by omega), ad_ne (ad.bd (by decide : 3 < 4)) (ad.pa hp (by decide : 3 < 4)) (by omega)⟩
/-- scratch -/
def zScr (F G : Nat → Nat → Nat) (b : Nat) (A A' : zH) : Prop := ∀ a, (∀ j, j < 4 → a ≠ F (F b 7) j) → (∀ p, p < 5 → a ≠ F (G (F b 5) p) 3) → A' a = A a
theorem Inv.scr (ad : AD F G b ix) (h : Inv F G b n I A) {A' : zH} (hs : zScr F G b A A') : Inv F G b n I A' := by
  obtain ⟨q1, q2⟩ := h.1.q ad (I' := I) (A' := A') (fun _ _ _ => rfl) (fun a z1 z2 _ _ => hs a z1 z2) (h.1.2.1.cg (fun _ _ => rfl) (hs _ (fun j hj => ad_ne ad.dt (ad.sp hj) (by omega)) (fun p hp => ad_ne ad.dt (ad.pa hp (by decide : 3 < 4)) (by omega))))
  exact ⟨q1, q2 h.2⟩
theorem s_remedy (ad : AD F G b ix) (h : Inv F G b n I A) {p : Nat} (hp : p < 2) : ∃ A', f_X5_remedy F G b (i32 p) I A = some (remv (clsP F G b p I A), A') ∧ (∀ a, a ≠ F (G (F b 5) p) 3 → A' a = A a) ∧ zScr F G b A A' := by
  have hp5 : p < 5 := by omega
  obtain ⟨A', e, h1⟩ := s_fewest (F := F) (G := G) (I := I) (A := A) (v := G (F b 5) p) (B := F b 6) (h.1.2.2.2.2.2.2.con h.n16 hp) (Inv.ap ad hp5)
  refine ⟨A', ?_, h1, fun a _ q => h1 a (q p hp5)⟩
  unfold f_X5_remedy
  refine (zb_s (s_needProject h.1.1.2.2.2.1 hp)).trans ((zck_s (i32_in hp5 (by decide))).trans ?_)
  rw [i32_nat (by omega)]
  exact zb2_s e
theorem likeP.trans {p : Nat} {I1 A1 I2 A2 : zH} (h : likeP F G b p I A I1 A1) (h2 : likeP F G b p I1 A1 I2 A2) : likeP F G b p I A I2 A2 := ⟨fun a k q => (h2.1 a k q).trans (h.1 a k q), fun a q1 q2 q3 => (h2.2 a q1 q2 q3).trans (h.2 a q1 q2 q3)⟩
theorem likeP.refl (p : Nat) : likeP F G b p I A I A := ⟨fun _ _ _ => rfl, fun _ _ _ _ => rfl⟩
/-- the nodes of a set are emptied, and what they had is kept -/
theorem s_empty (ad : AD F G b ix) (h : Inv F G b n I A) {p : Nat} {s : Int32} (hp : p < 2) (hs : hbIn s 10) (hsn : ∀ k, hb s k = true → hb (I (G (F b 5) p) 4) k = true) : ∃ I' A' w, zIt (fun x => g_L_isCleared_56 F G b (i32 p) s x.1 x.2.1 x.2.2.1 x.2.2.2) 2000 (0, I, A, fun _ => 0) = some (i32 10, I', A', w) ∧ Inv F G b n I' A' ∧ likeP F G b p I A I' A' ∧ (∀ j, A' (F (G (F b 5) p) 2) j = if hb s j then -1 else A (F (G (F b 5) p) 2) j) ∧ ∀ j, hb s j = true → w j = A (F (G (F b 5) p) 2) j := by
  have key := zIt_inv (fun x : Int32 × zH × zH × (Nat → Int32) => g_L_isCleared_56 F G b (i32 p) s x.1 x.2.1 x.2.2.1 x.2.2.2) 10 (fun k x => x.1 = i32 k ∧ Inv F G b n x.2.1 x.2.2.1 ∧ likeP F G b p I A x.2.1 x.2.2.1 ∧ (∀ j, x.2.2.1 (F (G (F b 5) p) 2) j = if hb s j = true ∧ j < k then -1 else A (F (G (F b 5) p) 2) j) ∧ ∀ j, hb s j = true → j < k → x.2.2.2 j = A (F (G (F b 5) p) 2) j)
    (fun x => x.1 = i32 10 ∧ Inv F G b n x.2.1 x.2.2.1 ∧ likeP F G b p I A x.2.1 x.2.2.1 ∧ (∀ j, x.2.2.1 (F (G (F b 5) p) 2) j = if hb s j = true ∧ j < 10 then -1 else A (F (G (F b 5) p) 2) j) ∧ ∀ j, hb s j = true → j < 10 → x.2.2.2 j = A (F (G (F b 5) p) 2) j) (by decide) (fun k x hk hx => ?_) (fun x hx => ?_) (k0 := 0) (by decide) (x := (i32 0, I, A, fun _ => 0)) ⟨rfl, h, likeP.refl p, fun j => (if_neg (fun q => by omega)).symm, fun j _ hj => by omega⟩
  · obtain ⟨⟨x1, I', A', w⟩, e, g1, g2, g3, g4, g5⟩ := key
    simp only at g1 g2 g3 g4 g5
    subst g1
    have h10 : ∀ j, hb s j = true → j < 10 := fun j hj => Decidable.byContradiction fun q => by rw [hs j (by omega)] at hj; cases hj
    refine ⟨I', A', w, e, g2, g3, fun j => ?_, fun j hj => g5 j hj (h10 j hj)⟩
    rw [g4]
    by_cases hj : hb s j = true
    · rw [if_pos ⟨hj, h10 j hj⟩, if_pos hj]
    · rw [if_neg (fun q => hj q.1), if_neg hj]
  · obtain ⟨x1, I1, A1, w⟩ := x
    obtain ⟨g1, g2, g3, g4, g5⟩ := hx
    simp only at g1 g2 g3 g4 g5
    subst g1
    have e0 : g_L_isCleared_56 F G b (i32 p) s (i32 k) I1 A1 w = _ := if_neg (le_f (n := 10) hk (by decide))
    by_cases hk1 : hb s k = true
    · have hnode : hb (I1 (G (F b 5) p) 4) k = true := by
        rw [g3.1 _ _ (Or.inr (by decide))]
        exact hsn k hk1
      obtain ⟨I2, A2, e2, r1, r2, r3⟩ := s_replace ad g2 (v := -1) hp hk hnode (Or.inl rfl)
      refine ⟨(i32 (k + 1), I2, A2, upd w k (A1 (F (G (F b 5) p) 2) k)), e0.trans ((if_pos ((hb_t (by omega)).mpr hk1)).trans ((zb3_s e2).trans ((zck_s (i32_in hk (by decide))).trans ?_))), rfl, r1, g3.trans r2, fun j => ?_, fun j hj hjk => ?_⟩
      · rw [i32_nat (by omega), i32_add1]
        rfl
      · dsimp only
        rw [r3]
        by_cases hjk : j = k
        · subst hjk
          rw [if_pos rfl, if_pos ⟨hk1, by omega⟩]
        · rw [if_neg hjk, g4]
          by_cases hsj : hb s j = true ∧ j < k
          · rw [if_pos hsj, if_pos ⟨hsj.1, by omega⟩]
          · rw [if_neg hsj, if_neg (fun q => hsj ⟨q.1, by omega⟩)]
      · dsimp only
        unfold upd
        by_cases hjk2 : j = k
        · subst hjk2
          rw [if_pos rfl, g4, if_neg (fun q => by omega)]
        · rw [if_neg hjk2]
          exact g5 j hj (by omega)
    · refine ⟨(i32 (k + 1), I1, A1, w), e0.trans ((if_neg (fun q => hk1 ((hb_t (by omega)).mp q))).trans (by rw [i32_add1])), rfl, g2, g3, fun j => ?_, fun j hj hjk => ?_⟩
      · dsimp only
        rw [g4]
        by_cases hsj : hb s j = true ∧ j < k
        · rw [if_pos hsj, if_pos ⟨hsj.1, by omega⟩]
        · rw [if_neg hsj, if_neg (fun q => hsj ⟨q.1, by
            have : j ≠ k := fun z => by rw [z] at q; exact hk1 q.1
            omega⟩)]
      · dsimp only
        refine g5 j hj ?_
        have : j ≠ k := fun z => by rw [z] at hj; exact hk1 hj
        omega
  · obtain ⟨x1, I1, A1, w⟩ := x
    obtain ⟨g1, g⟩ := hx
    simp only at g1
    subst g1
    exact ⟨_, if_pos (le_t (Nat.le_refl 10) (by decide)), rfl, g⟩
/-- and they get it back -/
theorem s_back (ad : AD F G b ix) {I0 A0 : zH} (h0 : Inv F G b n I0 A0) (h : Inv F G b n I A) {p : Nat} {s : Int32} {w : Nat → Int32} (hp : p < 2) (hs : hbIn s 10) (hl : likeP F G b p I0 A0 I A) (hsn : ∀ k, hb s k = true → hb (I0 (G (F b 5) p) 4) k = true) (hA : ∀ j, A (F (G (F b 5) p) 2) j = if hb s j then -1 else A0 (F (G (F b 5) p) 2) j) (hw : ∀ j, hb s j = true → w j = A0 (F (G (F b 5) p) 2) j) : ∃ I' A', zIt (fun x => g_L_isCleared_105 F G b (i32 p) s w x.1 x.2.1 x.2.2) 2000 (0, I, A) = some (i32 10, I', A') ∧ Inv F G b n I' A' ∧ likeP F G b p I0 A0 I' A' ∧ ∀ j, A' (F (G (F b 5) p) 2) j = A0 (F (G (F b 5) p) 2) j := by
  have h10 : ∀ j, hb s j = true → j < 10 := fun j hj => Decidable.byContradiction fun q => by rw [hs j (by omega)] at hj; cases hj
  have key := zIt_inv (fun x : Int32 × zH × zH => g_L_isCleared_105 F G b (i32 p) s w x.1 x.2.1 x.2.2) 10 (fun k x => x.1 = i32 k ∧ Inv F G b n x.2.1 x.2.2 ∧ likeP F G b p I0 A0 x.2.1 x.2.2 ∧ ∀ j, x.2.2 (F (G (F b 5) p) 2) j = if hb s j = true ∧ k ≤ j then -1 else A0 (F (G (F b 5) p) 2) j)
    (fun x => x.1 = i32 10 ∧ Inv F G b n x.2.1 x.2.2 ∧ likeP F G b p I0 A0 x.2.1 x.2.2 ∧ ∀ j, x.2.2 (F (G (F b 5) p) 2) j = if hb s j = true ∧ 10 ≤ j then -1 else A0 (F (G (F b 5) p) 2) j) (by decide) (fun k x hk hx => ?_) (fun x hx => ?_) (k0 := 0) (by decide) (x := (i32 0, I, A)) ⟨rfl, h, hl, fun j => ?_⟩
  · obtain ⟨⟨x1, I', A'⟩, e, g1, g2, g3, g4⟩ := key
    simp only at g1 g2 g3 g4
    subst g1
    refine ⟨I', A', e, g2, g3, fun j => ?_⟩
    rw [g4, if_neg (fun q => by have := h10 j q.1; omega)]
  · obtain ⟨x1, I1, A1⟩ := x
    obtain ⟨g1, g2, g3, g4⟩ := hx
    simp only at g1 g2 g3 g4
    subst g1
    have e0 : g_L_isCleared_105 F G b (i32 p) s w (i32 k) I1 A1 = _ := if_neg (le_f (n := 10) hk (by decide))
    by_cases hk1 : hb s k = true
    · have hnode : hb (I1 (G (F b 5) p) 4) k = true := by
        rw [g3.1 _ _ (Or.inr (by decide))]
        exact hsn k hk1
      obtain ⟨I2, A2, e2, r1, r2, r3⟩ := s_replace ad g2 (v := w k) hp hk hnode (by rw [hw k hk1]; exact (h0.1.2.2.2.2.2.2 p hp).2 k hk (hsn k hk1))
      refine ⟨(i32 (k + 1), I2, A2), e0.trans ((if_pos ((hb_t (by omega)).mpr hk1)).trans ((zck_s (i32_in hk (by decide))).trans ?_)), rfl, r1, g3.trans r2, fun j => ?_⟩
      · rw [i32_nat (by omega)]
        refine (zb3_s e2).trans ((if_pos ?_).trans (by rw [i32_add1]))
        rw [g4, if_pos ⟨hk1, Nat.le_refl _⟩]
      · dsimp only
        rw [r3]
        by_cases hjk : j = k
        · subst hjk
          rw [if_pos rfl, if_neg (fun q => by omega), hw j hk1]
        · rw [if_neg hjk, g4]
          by_cases hsj : hb s j = true ∧ k ≤ j
          · rw [if_pos hsj, if_pos ⟨hsj.1, by omega⟩]
          · rw [if_neg hsj, if_neg (fun q => hsj ⟨q.1, by omega⟩)]
    · refine ⟨(i32 (k + 1), I1, A1), e0.trans ((if_neg (fun q => hk1 ((hb_t (by omega)).mp q))).trans (by rw [i32_add1])), rfl, g2, g3, fun j => ?_⟩
      dsimp only
      rw [g4]
      by_cases hsj : hb s j = true ∧ k ≤ j
      · rw [if_pos hsj, if_pos ⟨hsj.1, by
          have : j ≠ k := fun z => by rw [z] at hsj; exact hk1 hsj.1
          omega⟩]
      · rw [if_neg hsj, if_neg (fun q => hsj ⟨q.1, by omega⟩)]
  · obtain ⟨x1, I1, A1⟩ := x
    obtain ⟨g1, g⟩ := hx
    simp only at g1
    subst g1
    exact ⟨_, if_pos (le_t (Nat.le_refl 10) (by decide)), rfl, g⟩
  · dsimp only
    rw [hA]
    by_cases hj : hb s j = true
    · rw [if_pos hj, if_pos ⟨hj, Nat.zero_le _⟩]
    · rw [if_neg hj, if_neg (fun q => hj q.1)]
end ZCL
