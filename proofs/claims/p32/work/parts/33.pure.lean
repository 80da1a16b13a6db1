/-! ask, node, notice, ship -/
section ZAS
variable {F G : Nat → Nat → Nat} {I A : zH} {b n : Nat} {ix : Nat → Nat}
theorem s_op2 (h : Inv F G b n I A) {i : Nat} (hi : i < n) : f_X5_ofPiece F G b (i32 i) 2 I A = some (I (G (F b 1) i) 1) := by
  have hn := h.n16
  unfold f_X5_ofPiece
  refine (zb_s (s_needPiece hn h.i8 hi)).trans ((zck_s (i32_in (by omega : i < 16) (by decide))).trans ((if_neg (by decide)).trans ((if_neg (by decide)).trans ((if_pos rfl).trans ?_))))
  rw [i32_nat (by omega)]
theorem s_op3 (h : Inv F G b n I A) {i : Nat} (hi : i < n) : f_X5_ofPiece F G b (i32 i) 3 I A = some (A (F (F b 6) 0) i) := by
  have hn := h.n16
  unfold f_X5_ofPiece
  refine (zb_s (s_needPiece hn h.i8 hi)).trans ((zck_s (i32_in (by omega : i < 16) (by decide))).trans ((if_neg (by decide)).trans ((if_neg (by decide)).trans ((if_neg (by decide)).trans ((if_pos rfl).trans ?_)))))
  refine (zb_s (s_licencesOf (Or.inr ⟨i, by omega, rfl⟩))).trans ?_
  unfold pv
  rw [if_neg (i32_ne (by omega)), i32_nat (by omega)]
theorem s_op4 (h : Inv F G b n I A) {i : Nat} (hi : i < n) : f_X5_ofPiece F G b (i32 i) 4 I A = some (I (G (F b 1) i) 2) := by
  have hn := h.n16
  unfold f_X5_ofPiece
  refine (zb_s (s_needPiece hn h.i8 hi)).trans ((zck_s (i32_in (by omega : i < 16) (by decide))).trans ((if_neg (by decide)).trans ((if_neg (by decide)).trans ((if_neg (by decide)).trans ((if_neg (by decide)).trans ((if_pos rfl).trans ?_))))))
  rw [i32_nat (by omega)]
theorem s_op5 (h : Inv F G b n I A) {i : Nat} (hi : i < n) : f_X5_ofPiece F G b (i32 i) 5 I A = some (A (F b 3) i) := by
  have hn := h.n16
  unfold f_X5_ofPiece
  refine (zb_s (s_needPiece hn h.i8 hi)).trans ((zck_s (i32_in (by omega : i < 16) (by decide))).trans ((if_neg (by decide)).trans ((if_neg (by decide)).trans ((if_neg (by decide)).trans ((if_neg (by decide)).trans ((if_neg (by decide)).trans ((if_pos rfl).trans ?_)))))))
  rw [i32_nat (by omega)]
  exact zck_s (i32_in2 (by omega : i < 16) (by decide))
theorem s_ol3 (h : Inv F G b n I A) {l : Nat} (hl : l < 4) : f_X5_ofLicence F G b (i32 l) 3 I A = some (I (G (F b 4) l) 3) := by
  unfold f_X5_ofLicence
  refine (zb_s (s_needLicence h.1.1.2.2.1 hl)).trans ((zck_s (i32_in (by omega : l < 6) (by decide))).trans ((if_neg (by decide)).trans ((if_neg (by decide)).trans ((if_neg (by decide)).trans ((if_pos rfl).trans ?_)))))
  rw [i32_nat (by omega)]
theorem s_ol4 (h : Inv F G b n I A) {l : Nat} (hl : l < 4) : f_X5_ofLicence F G b (i32 l) 4 I A = some (I (G (F b 4) l) 4) := by
  unfold f_X5_ofLicence
  refine (zb_s (s_needLicence h.1.1.2.2.1 hl)).trans ((zck_s (i32_in (by omega : l < 6) (by decide))).trans ((if_neg (by decide)).trans ((if_neg (by decide)).trans ((if_neg (by decide)).trans ((if_neg (by decide)).trans ((if_pos rfl).trans ?_))))))
  rw [i32_nat (by omega)]
theorem s_ask (ad : AD F G b ix) (h : Inv F G b n I A) {i l : Nat} (hi : i < n) (hl : l < 4) (hb1 : hb (A (F (F b 6) 0) i) l = true) :
    (I (G (F b 4) l) 3 ≤ 0 ∧ f_X5_ask F G b (i32 i) (i32 l) I A = some (0, I, A)) ∨ (¬ I (G (F b 4) l) 3 ≤ 0 ∧ ∃ I' A', f_X5_ask F G b (i32 i) (i32 l) I A = some (1, I', A') ∧ Inv F G b n I' A' ∧ hb (A' (F (F b 6) 0) i) l = false) := by
  have hn := h.n16
  have hi16 : i < 16 := by omega
  have hl6 : l < 6 := by omega
  have e0 : f_X5_ask F G b (i32 i) (i32 l) I A = _ := (zb_s (s_needPiece hn h.i8 hi)).trans ((zb_s (s_needLicence h.1.1.2.2.1 hl)).trans ((zb_s (s_licencesOf (Or.inr ⟨i, hi16, rfl⟩))).trans ((zb_s (s_hasBit (by omega))).trans ((if_neg (fun q => by
    have q2 := bit1_0.mp q
    unfold pv at q2
    rw [if_neg (i32_ne (by omega)), i32_nat (by omega), hb1] at q2
    cases q2)).trans (zck_s (i32_in hl6 (by decide)))))))
  rw [i32_nat (by omega), i32_nat (by omega)] at e0
  by_cases hp : I (G (F b 4) l) 3 ≤ 0
  · exact Or.inl ⟨hp, e0.trans (if_neg (Int32.not_lt.mpr hp))⟩
  · refine Or.inr ⟨hp, ?_⟩
    have e1 := e0.trans (if_pos (Int32.not_le.mp hp))
    have lp : G (F b 1) i ≠ G (F b 4) l := ad_ne (ad.pc hi16) (ad.lc hl6) (by omega)
    have bl : b ≠ G (F b 4) l := ad_ne ad.b0 (ad.lc hl6) (by omega)
    have bp : b ≠ G (F b 1) i := ad_ne ad.b0 (ad.pc hi16) (by omega)
    generalize hJ : up2 (up2 (up2 I (G (F b 4) l) 3 (I (G (F b 4) l) 3 - 1)) (G (F b 1) i) 2 (I (G (F b 1) i) 2 ||| ((1 : Int32) <<< (i32 l &&& 31)))) b 11 (I b 11 + 1) = J
    have jO : ∀ a, a ≠ b → a ≠ G (F b 1) i → a ≠ G (F b 4) l → J a = I a := fun a q1 q2 q3 => by
      rw [← hJ, up2_f _ _ _ q1, up2_f _ _ _ q2, up2_f _ _ _ q3]
    have jB : ∀ k, k ≠ 11 → J b k = I b k := fun k hk => by rw [← hJ, up2_k _ _ _ hk, up2_a _ _ _ _ bp, up2_a _ _ _ _ bl]
    have jC : ∀ j, j < 16 → ∀ k, k ≠ 2 → J (G (F b 1) j) k = I (G (F b 1) j) k := fun j hj k hk => by
      by_cases hji : j = i
      · subst hji
        rw [← hJ, up2_a _ _ _ _ bp.symm, up2_k _ _ _ hk, up2_a _ _ _ _ lp]
      · rw [jO _ (ad_ne (ad.pc hj) ad.b0 (by omega)) (ad_ne (ad.pc hj) (ad.pc hi16) (by omega)) (ad_ne (ad.pc hj) (ad.lc hl6) (by omega))]
    have jC2 : J (G (F b 1) i) 2 = I (G (F b 1) i) 2 ||| ((1 : Int32) <<< (i32 l &&& 31)) := by rw [← hJ, up2_a _ _ _ _ bp.symm, up2_at]
    have jL : ∀ k, k < 6 → ∀ m, m ≠ 3 → J (G (F b 4) k) m = I (G (F b 4) k) m := fun k hk m hm => by
      rw [← hJ, up2_a _ _ _ _ (ad_ne (ad.lc hk) ad.b0 (by omega)), up2_a _ _ _ _ (ad_ne (ad.lc hk) (ad.pc hi16) (by omega))]
      by_cases hkl : k = l
      · subst hkl
        exact up2_k _ _ _ hm
      · exact up2_a _ _ _ _ (ad_ne (ad.lc hk) (ad.lc hl6) (by omega))
    obtain ⟨⟨h1, h2, h3, h4, h5, h6, h7⟩, -⟩ := h
    have pre : Pre F G b n J A := ⟨h1.cg (fun k _ hk => jB k hk), h2.cg (fun _ _ => by rw [jO _ (ad_ne ad.d ad.b0 (by decide)) (ad_ne ad.d (ad.pc hi16) (by omega)) (ad_ne ad.d (ad.lc hl6) (by omega))]) rfl, h3.cg (fun j hj => jO _ (ad_ne (ad.pr (by omega : j < 16)) ad.b0 (by omega)) (ad_ne (ad.pr (by omega : j < 16)) (ad.pc hi16) (by omega)) (ad_ne (ad.pr (by omega : j < 16)) (ad.lc hl6) (by omega))) (fun _ _ => rfl) (fun _ _ => rfl), h4, h5.cg (fun j hj => jC j hj 1 (by decide)), h6.cg (fun k hk => jL k hk 4 (by decide)), h7.cg (fun p hp => by rw [jO _ (ad_ne (ad.pj (by omega : p < 5)) ad.b0 (by omega)) (ad_ne (ad.pj (by omega : p < 5)) (ad.pc hi16) (by omega)) (ad_ne (ad.pj (by omega : p < 5)) (ad.lc hl6) (by omega))]) (fun _ _ => rfl)⟩
    obtain ⟨I', A', e, p1, p2, a1, b1, -⟩ := settle_inv ad pre
    refine ⟨I', A', e1.trans ?_, ⟨p1, p2⟩, ?_⟩
    · refine (show _ = _ from ?_)
      unfold zlet
      refine (zck_s (i32_in2 hi16 (by decide))).trans ?_
      have e2 : up2 I (G (F b 4) l) 3 (I (G (F b 4) l) 3 - 1) (G (F b 1) i) 2 = I (G (F b 1) i) 2 := up2_a _ _ _ _ lp
      have e3 : up2 (up2 I (G (F b 4) l) 3 (I (G (F b 4) l) 3 - 1)) (G (F b 1) i) 2 (I (G (F b 1) i) 2 ||| ((1 : Int32) <<< (i32 l &&& 31))) b 11 = I b 11 := by rw [up2_a _ _ _ _ bp, up2_a _ _ _ _ bl]
      dsimp only
      rw [e2, e3, hJ]
      exact zb3_s e
    · rw [(b1 i hi).1]
      unfold nowS
      rw [bsv_eq, hb_and, hb_not _ (by omega)]
      have : hb (frv F G b J i) l = true := by
        unfold frv
        rw [jC2, hb_or, hb_one (by omega)]
        simp
      rw [this]
      simp
theorem z_or1 {m k : Nat} (hm : m < 1024) (hk : k < 10) : i32 m ||| ((1 : Int32) <<< (i32 k &&& 31)) = i32 (m ||| 2 ^ k) := by
  have h2 : m ||| 2 ^ k < 2 ^ 10 := Nat.or_lt_two_pow hm (Nat.pow_lt_pow_right (by decide) hk)
  apply hb_ext
  intro j _
  rw [hb_or, hb_one (by omega), hb_i32 j (by omega), hb_i32 j (by omega), Nat.testBit_or, Nat.testBit_two_pow]
  by_cases h : j = k
  · simp [h]
  · have h' : ¬ k = j := fun q => h q.symm
    simp [h, h']
/-- case 4: a node more -/
theorem s_node (ad : AD F G b ix) (h : Inv F G b n I A) {p q i : Nat} (hp : p < 2) (hq : q < 10) (hi : i < n) (hnode : hb (I (G (F b 5) p) 4) q = true) (hfew : ¬ 10 ≤ bcv (I (G (F b 5) p) 4)) : ∃ k I' A', k < 10 ∧ f_X5_node F G b (i32 p) (i32 q) (i32 i) I A = some (i32 k, I', A') ∧ Inv F G b n I' A' ∧ bcv (I' (G (F b 5) p) 4) = bcv (I (G (F b 5) p) 4) + 1 := by
  have hn := h.n16
  have hi16 : i < 16 := by omega
  have hp5 : p < 5 := by omega
  have hne : f_X5_needNode F G b (i32 p) (i32 q) I A = some () := by
    unfold f_X5_needNode
    refine (zb_s (s_needProject h.1.1.2.2.2.1 hp)).trans ((zck_s (i32_in hp5 (by decide))).trans ?_)
    rw [i32_nat (by omega)]
    refine (zb_s (s_hasNode hq)).trans (if_neg (fun z => ?_))
    rw [bit1_0.mp z] at hnode
    cases hnode
  obtain ⟨m, hm, em⟩ := hb_10 (h.1.2.2.2.2.2.2 p hp).1
  rcases s_firstFree (F := F) (G := G) (I := I) (A := A) (v := G (F b 5) p) with ⟨k, hk, hf, ef⟩ | ⟨hall, -⟩
  · have hst : ∀ (A6 A3 : zH), True := fun _ _ => trivial
    generalize hJ : up2 I (G (F b 5) p) 4 (I (G (F b 5) p) 4 ||| ((1 : Int32) <<< (i32 k &&& 31))) = J
    generalize hX : up2 (up2 (up2 A (F (G (F b 5) p) 0) k (i32 q)) (F (G (F b 5) p) 1) k ((up2 A (F (G (F b 5) p) 0) k (i32 q)) (F (G (F b 5) p) 1) q ||| ((1 : Int32) <<< (i32 q &&& 31)))) (F (G (F b 5) p) 2) k (i32 i) = X
    have eg : f_X3_grow F G (G (F b 5) p) (i32 k) (i32 q) (i32 i) I A = some (J, X) := by
      unfold f_X3_grow zlet
      refine (zck_s (i32_in hk (by decide))).trans ((zck_s (i32_in hq (by decide))).trans ((zck_s (i32_in hk (by decide))).trans ((zck_s (i32_in hk (by decide))).trans ?_)))
      rw [i32_nat (by omega), i32_nat (by omega), hJ, hX]
    have jO : ∀ a, a ≠ G (F b 5) p → J a = I a := fun a z => by rw [← hJ]; exact up2_f _ _ _ z
    have xO : ∀ a, (∀ j, j < 3 → a ≠ F (G (F b 5) p) j) → X a = A a := fun a z => by
      rw [← hX, up2_f _ _ _ (z 2 (by decide)), up2_f _ _ _ (z 1 (by decide)), up2_f _ _ _ (z 0 (by decide))]
    obtain ⟨⟨h1, h2, h3, h4, h5, h6, h7⟩, -⟩ := h
    have pre : Pre F G b n J X := by
      refine ⟨h1.cg (fun k _ _ => by rw [jO _ (ad_ne ad.b0 (ad.pj hp5) (by omega))]), h2.cg (fun _ _ => by rw [jO _ (ad_ne ad.d (ad.pj hp5) (by omega))]) (xO _ fun j hj => ad_ne ad.dt (ad.pa hp5 (by omega : j < 4)) (by omega)), h3.cg (fun j hj => jO _ (ad_ne (ad.pr (by omega : j < 16)) (ad.pj hp5) (by omega))) (fun j hj => xO _ fun m hm => ad_ne (ad.pt (by omega : j < 16)) (ad.pa hp5 (by omega : m < 4)) (by omega)) (fun j hj => xO _ fun m hm => ad_ne (ad.pp (by omega : j < 16)) (ad.pa hp5 (by omega : m < 4)) (by omega)), h4.cg hn (fun j hj => xO _ fun m hm => ad_ne (ad.sh hj) (ad.pa hp5 (by omega : m < 4)) (by omega)), h5.cg (fun j hj => by rw [jO _ (ad_ne (ad.pc hj) (ad.pj hp5) (by omega))]), h6.cg (fun l hl => by rw [jO _ (ad_ne (ad.lc hl) (ad.pj hp5) (by omega))]), fun r hr => ?_⟩
      by_cases hrp : r = p
      · subst hrp
        have e4 : J (G (F b 5) r) 4 = I (G (F b 5) r) 4 ||| ((1 : Int32) <<< (i32 k &&& 31)) := by rw [← hJ, up2_at]
        rw [e4]
        refine ⟨fun j hj => ?_, fun j hj hjb => ?_⟩
        · rw [hb_or, (h7 r hr).1 j hj, hb_one (by omega)]
          have : ¬ j = k := by omega
          simp [this]
        · rw [← hX]
          by_cases hjk : j = k
          · subst hjk
            rw [up2_at]
            exact Or.inr ⟨i, hi, rfl⟩
          · rw [up2_k _ _ _ hjk, up2_f _ _ _ (ad_ne (ad.pa hp5 (by decide : 2 < 4)) (ad.pa hp5 (by decide : 1 < 4)) (by omega)), up2_f _ _ _ (ad_ne (ad.pa hp5 (by decide : 2 < 4)) (ad.pa hp5 (by decide : 0 < 4)) (by omega))]
            refine (h7 r hr).2 j hj ?_
            rw [hb_or, hb_one (by omega)] at hjb
            simpa [hjk] using hjb
      · rw [jO _ (ad_ne (ad.pj (by omega : r < 5)) (ad.pj hp5) (by omega)), xO _ (fun m hm => ad_ne (ad.pa (by omega : r < 5) (by decide : 2 < 4)) (ad.pa hp5 (by omega : m < 4)) (by omega))]
        exact h7 r hr
    obtain ⟨I', A', e, p1, p2, -, -, -, i1, -⟩ := settle_inv ad pre
    refine ⟨k, I', A', hk, ?_, ⟨p1, p2⟩, ?_⟩
    · unfold f_X5_node
      refine (zb_s hne).trans ((if_neg (i32_ne (by omega))).trans ((zb_s (s_needPiece hn h1.2.1 hi)).trans ((zck_s (i32_in hp5 (by decide))).trans ?_)))
      rw [i32_nat (by omega)]
      refine (zb_s ef).trans ((if_neg (i32_ne (by omega))).trans ((zck_s (i32_in2 hp5 (by decide))).trans ((zb2_s eg).trans (zb3_s e))))
    · rw [i1 _ _ (Or.inr (by decide)), ← hJ, up2_at, em, z_or1 hm hk]
      have h2 : m ||| 2 ^ k < 2 ^ 10 := Nat.or_lt_two_pow hm (Nat.pow_lt_pow_right (by decide) hk)
      rw [em, hb_i32 k (by omega)] at hf
      rw [(pop_1 _ h2).1, (pop_1 m hm).1, pop_add k hk m hm hf, i32_add1]
  · exfalso
    apply hfew
    have : I (G (F b 5) p) 4 = i32 1023 := hb_ext fun j hj => by
      by_cases hj10 : j < 10
      · rw [hall j hj10, hb_i32 j (by decide)]
        have : ∀ j, j < 10 → Nat.testBit 1023 j = true := by decide
        exact (this j hj10).symm
      · rw [(h.1.2.2.2.2.2.2 p hp).1 j (by omega), hb_i32 j (by decide)]
        have : ∀ j, j < 32 → 10 ≤ j → Nat.testBit 1023 j = false := by decide
        exact (this j hj (by omega)).symm
    rw [this, (pop_1 1023 (by decide)).1, pop_all]
    exact le_t (Nat.le_refl 10) (by decide)
end ZAS
