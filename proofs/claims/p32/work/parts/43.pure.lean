/-! the start of the bank behind its constructor -/
section ZST0
variable {L : List Nat}
theorem zF_ad (hN : zNd L) (hl : L.length = 130) {i : Nat} (hi : i < 130) (k : Nat) : zFF L (zad L i) k = zad L (zft i k) := by
  unfold zFF
  rw [zix_ad hN (by omega)]
theorem zG_ad (hN : zNd L) (hl : L.length = 130) {i : Nat} (hi : i < 130) (k : Nat) : zGG L (zad L i) k = zad L (zgt i k) := by
  unfold zGG
  rw [zix_ad hN (by omega)]
theorem zI_ad (hN : zNd L) (hl : L.length = 130) {i : Nat} (hi : i < 130) (k : Nat) : zI0 L (zad L i) k = zit i k := by
  unfold zI0
  rw [zix_ad hN (by omega)]
theorem zA_ad (hN : zNd L) (hl : L.length = 130) {i : Nat} (hi : i < 130) (k : Nat) : zA0 L (zad L i) k = zat i k := by
  unfold zA0
  rw [zix_ad hN (by omega)]
theorem q_sh : ∀ i, i < 16 → zgt 5 i = 6 + i := by decide +kernel
theorem q_bd : ∀ j, j < 4 → zft 25 j = 26 + j := by decide +kernel
theorem q_sp : ∀ j, j < 4 → zft 30 j = 31 + j := by decide +kernel
theorem q_pc : ∀ i, i < 16 → zgt 4 i = 35 + 4 * i := by decide +kernel
theorem q_pr : ∀ i, i < 16 → zft (35 + 4 * i) 0 = 36 + 4 * i := by decide +kernel
theorem q_pt : ∀ i, i < 16 → zft (36 + 4 * i) 0 = 37 + 4 * i ∧ zft (36 + 4 * i) 1 = 38 + 4 * i := by decide +kernel
theorem q_lc : ∀ k, k < 6 → zgt 23 k = 99 + k := by decide +kernel
theorem q_pj : ∀ p, p < 5 → zgt 24 p = 105 + 5 * p := by decide +kernel
theorem q_pa : ∀ p, p < 5 → ∀ j, j < 4 → zft (105 + 5 * p) j = 106 + 5 * p + j := by decide +kernel
theorem z_AD (hN : zNd L) (hl : L.length = 130) : AD (zFF L) (zGG L) (zad L 0) (zix L) := by
  have f := fun {i : Nat} (hi : i < 130) (k : Nat) => zF_ad hN hl hi k
  have g := fun {i : Nat} (hi : i < 130) (k : Nat) => zG_ad hN hl hi k
  have x := fun {i : Nat} (hi : i < 130) => zix_ad hN (show i < L.length by omega)
  have f0 : zFF L (zad L 0) 0 = zad L 1 := f (by decide) 0
  have f1 : zFF L (zad L 0) 1 = zad L 4 := f (by decide) 1
  have f2 : zFF L (zad L 0) 2 = zad L 5 := f (by decide) 2
  have f3 : zFF L (zad L 0) 3 = zad L 22 := f (by decide) 3
  have f4 : zFF L (zad L 0) 4 = zad L 23 := f (by decide) 4
  have f5 : zFF L (zad L 0) 5 = zad L 24 := f (by decide) 5
  have f6 : zFF L (zad L 0) 6 = zad L 25 := f (by decide) 6
  have f7 : zFF L (zad L 0) 7 = zad L 30 := f (by decide) 7
  refine ⟨x (by decide), by rw [f0]; exact x (by decide), by rw [f0, f (by decide)]; exact x (by decide), by rw [f0, f (by decide)]; exact x (by decide), fun i hi => ?_, by rw [f3]; exact x (by decide), fun j hj => ?_, fun j hj => ?_, fun i hi => ?_, fun i hi => ?_, fun i hi => ?_, fun i hi => ?_, fun k hk => ?_, fun p hp => ?_, fun p hp j hj => ?_⟩
  · rw [f2, g (by decide), q_sh i hi]
    exact x (by omega)
  · rw [f6, f (by decide), q_bd j hj]
    exact x (by omega)
  · rw [f7, f (by decide), q_sp j hj]
    exact x (by omega)
  · rw [f1, g (by decide), q_pc i hi]
    exact x (by omega)
  · rw [f1, g (by decide), q_pc i hi, f (by omega), q_pr i hi]
    exact x (by omega)
  · rw [f1, g (by decide), q_pc i hi, f (by omega), q_pr i hi, f (by omega), (q_pt i hi).1]
    exact x (by omega)
  · rw [f1, g (by decide), q_pc i hi, f (by omega), q_pr i hi, f (by omega), (q_pt i hi).2]
    exact x (by omega)
  · rw [f4, g (by decide), q_lc k hk]
    exact x (by omega)
  · rw [f5, g (by decide), q_pj p hp]
    exact x (by omega)
  · rw [f5, g (by decide), q_pj p hp, f (by omega), q_pa p hp j hj]
    exact x (by omega)
theorem q_own : ∀ i, i < 16 → zit (35 + 4 * i) 1 = -1 := by decide +kernel
theorem q_riv : ∀ l, l < 6 → zit (99 + l) 4 = 0 := by decide +kernel
theorem q_nod : ∀ p, p < 2 → zit (105 + 5 * p) 4 = 1 ∧ zit (105 + 5 * p) 6 = 0 ∧ zat (108 + 5 * p) 0 = -1 := by decide +kernel
theorem z_St (hN : zNd L) (hl : L.length = 130) : St (zFF L) (zGG L) (zad L 0) 0 (zI0 L) (zA0 L) := by
  have f := fun {i : Nat} (hi : i < 130) (k : Nat) => zF_ad hN hl hi k
  have g := fun {i : Nat} (hi : i < 130) (k : Nat) => zG_ad hN hl hi k
  have iI := fun {i : Nat} (hi : i < 130) (k : Nat) => zI_ad hN hl hi k
  have f0 : zFF L (zad L 0) 0 = zad L 1 := f (by decide) 0
  have f1 : zFF L (zad L 0) 1 = zad L 4 := f (by decide) 1
  have f4 : zFF L (zad L 0) 4 = zad L 23 := f (by decide) 4
  have f5 : zFF L (zad L 0) 5 = zad L 24 := f (by decide) 5
  have riv : ∀ l, l < 6 → licv (zFF L) (zGG L) (zad L 0) (zI0 L) 4 l = 0 := fun l hl' => by
    unfold licv
    rw [f4, g (by decide), q_lc l hl', iI (by omega), q_riv l hl']
  refine ⟨(iI (by decide) 8).trans (by decide), (iI (by decide) 9).trans (by decide), (iI (by decide) 10).trans (by decide), (iI (by decide) 12).trans (by decide), ?_, fun i hi => ?_, fun l hl' => ⟨fun k _ => ?_, fun m hm => ?_⟩, fun p hp => ?_⟩
  · rw [f0]
    exact ⟨(iI (by decide) 2).trans (by decide), (iI (by decide) 3).trans (by decide)⟩
  · rw [f1, g (by decide), q_pc i hi, iI (by omega), q_own i hi]
  · rw [riv l hl']
    exact hb_zero k
  · rw [riv l hl', riv m hm, hb_zero, hb_zero]
  · have hp5 : p < 5 := by omega
    obtain ⟨e1, e2, e3⟩ := q_nod p hp
    rw [f5, g (by decide), q_pj p hp5, iI (by omega), iI (by omega), f (by omega), q_pa p hp5 2 (by decide), show 106 + 5 * p + 2 = 108 + 5 * p by omega, zA_ad hN hl (by omega), e1, e2, e3]
    exact ⟨rfl, rfl, rfl⟩
end ZST0
section ZPR
variable {F G : Nat → Nat → Nat} {I A : zH} {b : Nat} {ix : Nat → Nat}
/-- two projects, and the invariant holds -/
theorem s_projects (ad : AD F G b ix) (h : St F G b 4 I A) : ∃ I1 I2, f_X5_project F G b I A = some (0, I1) ∧ f_X5_project F G b I1 A = some (1, I2) ∧ Inv F G b 0 I2 A := by
  obtain ⟨h1, h2, h3', h4, h5, h6, h7, h8⟩ := h
  have e1 : f_X5_project F G b I A = some (0, up2 I b 10 1) := by
    unfold f_X5_project
    rw [h3']
    exact (if_pos (by decide)).trans rfl
  have e2 : f_X5_project F G b (up2 I b 10 1) A = some (1, up2 (up2 I b 10 1) b 10 (i32 2)) := by
    unfold f_X5_project
    rw [up2_at]
    exact (if_pos (by decide)).trans rfl
  refine ⟨_, _, e1, e2, ?_⟩
  generalize hJ : up2 (up2 I b 10 1) b 10 (i32 2) = J
  have jO : ∀ a, a ≠ b → J a = I a := fun a q => by rw [← hJ, up2_f _ _ _ q, up2_f _ _ _ q]
  have jB : ∀ k, k ≠ 10 → J b k = I b k := fun k q => by rw [← hJ, up2_k _ _ _ q, up2_k _ _ _ q]
  have jd : J (F b 0) = I (F b 0) := jO _ (ad_ne ad.d ad.b0 (by decide))
  refine ⟨⟨⟨by decide, by rw [jB 8 (by decide)]; exact h1, by rw [jB 9 (by decide)]; exact h2, by rw [← hJ, up2_at], by rw [jB 12 (by decide)]; exact h4⟩, ⟨0, by decide, by rw [jd]; exact h5.1, fun j hj => by omega, 0, by decide, by rw [jd]; exact h5.2⟩, fun i hi => by omega, ⟨fun i j hi => by omega, fun i hi => by omega⟩, fun i hi => Or.inl ?_, fun l hl => ?_, fun p hp => ⟨?_, fun k hk hkb => ?_⟩⟩, fun i hi => by omega, fun j hj => by omega, fun p hp => ?_⟩
  · unfold ownv
    rw [jO _ (ad_ne (ad.pc hi) ad.b0 (by omega))]
    exact h6 i hi
  · have e : ∀ l, l < 6 → licv F G b J 4 l = licv F G b I 4 l := fun l hl => by
      unfold licv
      rw [jO _ (ad_ne (ad.lc hl) ad.b0 (by omega))]
    refine ⟨by rw [e l hl]; exact (h7 l hl).1, fun m hm => ?_⟩
    rw [e l hl, e m hm]
    exact (h7 l hl).2 m hm
  · rw [jO _ (ad_ne (ad.pj (by omega : p < 5)) ad.b0 (by omega)), (h8 p hp).1]
    intro k hk
    rw [hb_i32 k (by decide), Nat.testBit_lt_two_pow (Nat.lt_of_lt_of_le (by decide : 1 < 2 ^ 10) (Nat.pow_le_pow_right (by decide) hk))]
  · rw [jO _ (ad_ne (ad.pj (by omega : p < 5)) ad.b0 (by omega)), (h8 p hp).1, hb_i32 k (by decide)] at hkb
    have q : ∀ k, k < 10 → Nat.testBit 1 k = true → k = 0 := by decide
    rw [q k hk hkb, (h8 p hp).2.2]
    exact Or.inl rfl
  · unfold rcB
    rw [jO _ (ad_ne (ad.pj (by omega : p < 5)) ad.b0 (by omega)), (h8 p hp).2.1]
    rfl
end ZPR
