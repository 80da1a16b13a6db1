/-! notice, ship, replace -/
section ZNO
variable {F G : Nat → Nat → Nat} {I A : zH} {b n : Nat} {ix : Nat → Nat}
/-- only project p's ints are other -/
theorem Pre.pj (ad : AD F G b ix) (h : Pre F G b n I A) {p : Nat} (hp : p < 5) {J : zH} (jO : ∀ a, a ≠ G (F b 5) p → J a = I a) (j4 : J (G (F b 5) p) 4 = I (G (F b 5) p) 4) : Pre F G b n J A := by
  obtain ⟨h1, h2, h3, h4, h5, h6, h7⟩ := h
  refine ⟨h1.cg (fun k _ _ => by rw [jO _ (ad_ne ad.b0 (ad.pj hp) (by omega))]), h2.cg (fun _ _ => by rw [jO _ (ad_ne ad.d (ad.pj hp) (by omega))]) rfl, h3.cg (fun j hj => by
    have hj16 : j < 16 := by have := h1.1; omega
    exact jO _ (ad_ne (ad.pr hj16) (ad.pj hp) (by omega))) (fun j hj => rfl) (fun j hj => rfl), h4, h5.cg (fun j hj => by rw [jO _ (ad_ne (ad.pc hj) (ad.pj hp) (by omega))]), h6.cg (fun l hl => by rw [jO _ (ad_ne (ad.lc hl) (ad.pj hp) (by omega))]), h7.cg (fun r hr => ?_) (fun _ _ => rfl)⟩
  by_cases hrp : r = p
  · subst hrp
    exact j4
  · rw [jO _ (ad_ne (ad.pj (by omega : r < 5)) (ad.pj hp) (by omega))]
/-- case 5 -/
theorem s_notice (ad : AD F G b ix) (h : Inv F G b n I A) {p d : Nat} (hp : p < 2) (hd : d < 5) : ∃ I' A', f_X5_notice F G b (i32 p) (i32 d) 1 I A = some (bit1 (hb (I (G (F b 5) p) 5) d), I', A') ∧ Inv F G b n I' A' ∧ hb (I' (G (F b 5) p) 5) d = true := by
  have hp5 : p < 5 := by omega
  generalize hJ : up2 I (G (F b 5) p) 5 (I (G (F b 5) p) 5 ||| ((1 : Int32) <<< (i32 d &&& 31))) = J
  obtain ⟨I', A', e, p1, p2, -, -, -, i1, -⟩ := settle_inv ad (h.1.pj ad hp5 (J := J) (fun a z => by rw [← hJ]; exact up2_f _ _ _ z) (by rw [← hJ]; exact up2_k _ _ _ (by decide)))
  refine ⟨I', A', ?_, ⟨p1, p2⟩, ?_⟩
  · unfold f_X5_notice
    refine (zb_s (s_needProject h.1.1.2.2.2.1 hp)).trans ((if_neg (i32_nn (by omega))).trans ((if_pos ((i32_lt (b := 5) (by omega) (by decide)).mpr hd)).trans ((zck_s (i32_in hp5 (by decide))).trans ?_)))
    rw [i32_nat (by omega)]
    refine (zb_s (s_hasBit (by omega))).trans ((if_neg (by decide)).trans ?_)
    unfold zlet
    dsimp only
    rw [hJ]
    refine (zb3_s e).trans (zck_s ?_)
    cases hb (I (G (F b 5) p) 5) d
    · exact Or.inl rfl
    · exact Or.inr rfl
  · rw [i1 _ _ (Or.inr (by decide)), ← hJ, up2_at, hb_or, hb_one (by omega)]
    simp
/-- case 6 -/
theorem s_ship (ad : AD F G b ix) (h : Inv F G b n I A) {p : Nat} (hp : p < 2) (hs : ¬ I (G (F b 5) p) 6 = 1) (hc : cntv (I (G (F b 5) p) 4) (A (F (G (F b 5) p) 1)) (A (F (G (F b 5) p) 2)) (A (F (F b 6) 0)) (A (F (F b 6) 2)) (A (F (F b 6) 3)) = 0) (hd : dutv (I (G (F b 5) p) 4) (A (F (G (F b 5) p) 2)) (A (F (F b 6) 1)) (I (G (F b 5) p) 5) = 0) :
    ∃ I', f_X5_ship F G b (i32 p) I A = some (I (G (F b 5) p) 7, I') ∧ Inv F G b n I' A ∧ I' (G (F b 5) p) 7 = I (G (F b 5) p) 7 ∧ I' (G (F b 5) p) 6 = 1 := by
  have hp5 : p < 5 := by omega
  have hn := h.n16
  have ho : ordB (I (G (F b 5) p) 4) (A (F (G (F b 5) p) 1)) (A (F (G (F b 5) p) 2)) (A (F (F b 6) 0)) (A (F (F b 6) 1)) (A (F (F b 6) 2)) (A (F (F b 6) 3)) (I (G (F b 5) p) 5) = true := by
    unfold ordB
    rw [decide_eq_true hc, decide_eq_true hd]
    rfl
  have jO : ∀ a, a ≠ G (F b 5) p → up2 I (G (F b 5) p) 6 1 a = I a := fun a z => up2_f _ _ _ z
  refine ⟨up2 I (G (F b 5) p) 6 1, ?_, ⟨h.1.pj ad hp5 jO (up2_k _ _ _ (by decide)), ?_⟩, up2_k _ _ _ (by decide), up2_at _ _ _ _⟩
  · unfold f_X5_ship
    refine (zb_s (s_needProject h.1.1.2.2.2.1 hp)).trans ((zck_s (i32_in hp5 (by decide))).trans ?_)
    rw [i32_nat (by omega)]
    refine (if_neg hs).trans ((zb_s (s_isInOrder (h.1.2.2.2.2.2.2.con hn hp))).trans ?_)
    rw [ho]
    refine (if_neg (by decide)).trans ?_
    unfold zlet
    dsimp only
    rw [up2_k _ _ _ (by decide)]
  · obtain ⟨n1, n2, n3⟩ := h.2
    refine ⟨n1.cg hn (by rw [jO _ (ad_ne ad.b0 (ad.pj hp5) (by omega))]) rfl (fun _ _ => rfl), n2.cg (nowS_cg hn (fun i hi => by rw [jO _ (ad_ne (ad.pc (by omega : i < 16)) (ad.pj hp5) (by omega))]) (fun i hi => by rw [jO _ (ad_ne (ad.pc (by omega : i < 16)) (ad.pj hp5) (by omega))]) (fun _ _ => rfl)) (fun l hl k _ => by rw [jO _ (ad_ne (ad.lc hl) (ad.pj hp5) (by omega))]) (fun _ _ => rfl), fun r hr => ?_⟩
    by_cases hrp : r = p
    · subst hrp
      have e4 : up2 I (G (F b 5) r) 6 1 (G (F b 5) r) 4 = I (G (F b 5) r) 4 := up2_k _ _ _ (by decide)
      have e5 : up2 I (G (F b 5) r) 6 1 (G (F b 5) r) 5 = I (G (F b 5) r) 5 := up2_k _ _ _ (by decide)
      unfold rcB
      rw [e4, e5, ho]
      simp
    · have e : up2 I (G (F b 5) p) 6 1 (G (F b 5) r) = I (G (F b 5) r) := jO _ (ad_ne (ad.pj (by omega : r < 5)) (ad.pj hp5) (by omega))
      exact (rcB_cg (by rw [e]) (by rw [e]) (by rw [e]) rfl rfl (fun _ _ => rfl)).trans (n3 r hr)
theorem s_needNode (h : Inv F G b n I A) {p q : Nat} (hp : p < 2) (hq : q < 10) (hnode : hb (I (G (F b 5) p) 4) q = true) : f_X5_needNode F G b (i32 p) (i32 q) I A = some () := by
  unfold f_X5_needNode
  refine (zb_s (s_needProject h.1.1.2.2.2.1 hp)).trans ((zck_s (i32_in (by omega : p < 5) (by decide))).trans ?_)
  rw [i32_nat (by omega)]
  refine (zb_s (s_hasNode hq)).trans (if_neg (fun z => ?_))
  rw [bit1_0.mp z] at hnode
  cases hnode
/-- the bank but for contents of project p, and for what became of the projects, is the same -/
def likeP (F G : Nat → Nat → Nat) (b p : Nat) (I A I' A' : zH) : Prop := (∀ a k, (∀ r, r < 2 → a ≠ G (F b 5) r) ∨ (k ≠ 6 ∧ k ≠ 7) → I' a k = I a k) ∧ (∀ a, a ≠ F b 3 → a ≠ F (G (F b 5) p) 2 → a ≠ F (G (F b 5) p) 3 → A' a = A a)
theorem s_replace (ad : AD F G b ix) (h : Inv F G b n I A) {p q : Nat} {v : Int32} (hp : p < 2) (hq : q < 10) (hnode : hb (I (G (F b 5) p) 4) q = true) (hv : pcIn n v) : ∃ I' A', f_X5_replace F G b (i32 p) (i32 q) v I A = some (A (F (G (F b 5) p) 2) q, I', A') ∧ Inv F G b n I' A' ∧ likeP F G b p I A I' A' ∧ (∀ k, A' (F (G (F b 5) p) 2) k = if k = q then v else A (F (G (F b 5) p) 2) k) := by
  have hn := h.n16
  have hp5 : p < 5 := by omega
  generalize hX : up2 A (F (G (F b 5) p) 2) q v = X
  have xO : ∀ a, a ≠ F (G (F b 5) p) 2 → X a = A a := fun a z => by rw [← hX]; exact up2_f _ _ _ z
  have pre : Pre F G b n I X := by
    obtain ⟨h1, h2, h3, h4, h5, h6, h7⟩ := h.1
    refine ⟨h1, h2.cg (fun _ _ => rfl) (xO _ (ad_ne ad.dt (ad.pa hp5 (by decide : 2 < 4)) (by omega))), h3.cg (fun _ _ => rfl) (fun j hj => xO _ (ad_ne (ad.pt (by omega : j < 16)) (ad.pa hp5 (by decide : 2 < 4)) (by omega))) (fun j hj => xO _ (ad_ne (ad.pp (by omega : j < 16)) (ad.pa hp5 (by decide : 2 < 4)) (by omega))), h4.cg hn (fun j hj => xO _ (ad_ne (ad.sh hj) (ad.pa hp5 (by decide : 2 < 4)) (by omega))), h5, h6, fun r hr => ⟨(h7 r hr).1, fun k hk hkb => ?_⟩⟩
    by_cases hrp : r = p
    · subst hrp
      rw [← hX]
      by_cases hkq : k = q
      · subst hkq
        rw [up2_at]
        exact hv
      · rw [up2_k _ _ _ hkq]
        exact (h7 r hr).2 k hk hkb
    · rw [xO _ (ad_ne (ad.pa (by omega : r < 5) (by decide : 2 < 4)) (ad.pa hp5 (by decide : 2 < 4)) (by omega))]
      exact (h7 r hr).2 k hk hkb
  obtain ⟨I', A', e, p1, p2, a1, b1, b2, i1, -⟩ := settle_inv ad pre
  have nb : ∀ j, j < 4 → F (F b 6) j ≠ F (G (F b 5) p) 2 := fun j hj => ad_ne (ad.bd hj) (ad.pa hp5 (by decide : 2 < 4)) (by omega)
  -- what binds is as it was
  have bB : ∀ j, j < 4 → A' (F (F b 6) j) = A (F (F b 6) j) := fun j hj => by
    funext i
    by_cases hi : i < n
    · obtain ⟨c0, c1, c2, c3⟩ := b1 i hi
      obtain ⟨d0, d1, d2, d3⟩ := h.2.2.1 i hi
      have hS : nowS F G b I X (i32 60) i = nowS F G b I A (i32 60) i := nowS_cg hn (fun _ _ => rfl) (fun _ _ => rfl) (fun j hj => xO _ (ad_ne (ad.sh hj) (ad.pa hp5 (by decide : 2 < 4)) (by omega))) i hi
      rw [hS] at c0 c1 c2 c3
      match j, hj with
      | 0, _ => exact c0.trans d0.symm
      | 1, _ => exact c1.trans d1.symm
      | 2, _ => exact c2.trans d2.symm
      | 3, _ => exact c3.trans d3.symm
    · rw [b2 i (by omega) j hj, xO _ (nb j hj)]
  refine ⟨I', A', ?_, ⟨p1, p2⟩, ⟨i1, fun a z1 z2 z3 => ?_⟩, fun k => ?_⟩
  · unfold f_X5_replace
    refine (zb_s (s_needNode h hp hq hnode)).trans ?_
    have fin : (zck (¬ (i32 p < 0 ∨ 5 ≤ (i32 p).toNatClampNeg)) <| zck (¬ (i32 q < 0 ∨ 10 ≤ (i32 q).toNatClampNeg)) <| zck (¬ (i32 q < 0 ∨ 10 ≤ (i32 q).toNatClampNeg)) <| zlet (up2 A (F (G (F b 5) (i32 p).toNatClampNeg) 2) (i32 q).toNatClampNeg v) fun A7 => zb3 (f_X5_settle F G b I A7) fun r8 I9 A10 => some (A (F (G (F b 5) (i32 p).toNatClampNeg) 2) (i32 q).toNatClampNeg, I9, A10)) = some (A (F (G (F b 5) p) 2) q, I', A') := by
      refine (zck_s (i32_in hp5 (by decide))).trans ((zck_s (i32_in hq (by decide))).trans ((zck_s (i32_in hq (by decide))).trans ?_))
      rw [i32_nat (by omega), i32_nat (by omega), hX]
      unfold zlet
      exact zb3_s e
    by_cases hv1 : v = -1
    · exact (if_pos hv1).trans fin
    · rcases hv with hv | ⟨k, hk, rfl⟩
      · exact absurd hv hv1
      · exact (if_neg hv1).trans ((zb_s (s_needPiece hn h.i8 hk)).trans fin)
  · by_cases hb' : ∃ j, j < 4 ∧ a = F (F b 6) j
    · obtain ⟨j, hj, rfl⟩ := hb'
      exact bB j hj
    · rw [a1 a z1 (fun j hj q => hb' ⟨j, hj, q⟩)]
      exact xO a z2
  · rw [a1 _ (ad_ne (ad.pa hp5 (by decide : 2 < 4)) ad.og (by omega)) (fun j hj => (nb j hj).symm), ← hX]
    unfold up2
    simp
end ZNO
