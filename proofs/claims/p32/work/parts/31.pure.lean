/-! keep: a new piece, with its shares -/
section ZKP
variable {F G : Nat → Nat → Nat} {I A : zH} {b n : Nat} {ix : Nat → Nat}
theorem s_takeShares (ad : AD F G b ix) (hn : n < 16) (hr : ∀ i, i ≤ n → ∃ m, 4 ≤ m ∧ m ≤ 12 ∧ rowIs F (F (G (F b 1) i) 0) m I A) :
    ∃ A', f_X5_takeShares F G b (i32 n) I A = some A' ∧ (∀ a, (∀ i, i < 16 → a ≠ G (F b 2) i) → A' a = A a) ∧ (∀ o, o ≤ n → ∃ q, q ≤ 100 ∧ shv F G b A' n o = i32 q ∧ shv F G b A' o n = i32 q ∧ (o = n → q = 100)) ∧ (∀ i j, i < n → j < n → shv F G b A' i j = shv F G b A i j) := by
  unfold f_X5_takeShares
  have hn16 : (i32 n).toNatClampNeg = n := i32_nat (by omega)
  have ppsh : ∀ i, i < 16 → ∀ j, j < 16 → F (F (G (F b 1) i) 0) 1 ≠ G (F b 2) j := fun i hi j hj => ad_ne (ad.pp hi) (ad.sh hj) (by omega)
  have shne : ∀ i j, i < 16 → j < 16 → i ≠ j → G (F b 2) i ≠ G (F b 2) j := fun i j hi hj h => ad_ne (ad.sh hi) (ad.sh hj) (by omega)
  have key := zIt_inv (fun x : Int32 × zH => g_X5_takeShares_12 F G b (i32 n) (F (G (F b 1) n) 0) x.1 x.2 I) (n + 1) (fun k x => x.1 = i32 k ∧ (∀ a, (∀ i, i < 16 → a ≠ G (F b 2) i) → x.2 a = A a) ∧ (∀ o, o < k → ∃ q, q ≤ 100 ∧ shv F G b x.2 n o = i32 q ∧ shv F G b x.2 o n = i32 q ∧ (o = n → q = 100)) ∧ (∀ i j, i < n → j < n → shv F G b x.2 i j = shv F G b A i j)) (fun x => (∀ a, (∀ i, i < 16 → a ≠ G (F b 2) i) → x.2 a = A a) ∧ (∀ o, o < n + 1 → ∃ q, q ≤ 100 ∧ shv F G b x.2 n o = i32 q ∧ shv F G b x.2 o n = i32 q ∧ (o = n → q = 100)) ∧ (∀ i j, i < n → j < n → shv F G b x.2 i j = shv F G b A i j)) (by omega) (fun k x hk h => ?_) (fun x h => ?_) (k0 := 0) (Nat.zero_le _) (x := (i32 0, A)) ⟨rfl, fun _ _ => rfl, fun o ho => by omega, fun _ _ _ _ => rfl⟩
  · obtain ⟨⟨x1, A'⟩, e, h1, h2, h3⟩ := key
    refine ⟨A', (zck_s (i32_in hn (by decide))).trans ?_, h1, fun o ho => h2 o (by omega), h3⟩
    rw [hn16]
    exact zb2_s e
  · obtain ⟨x1, X⟩ := x
    obtain ⟨p1, p2, p3, p4⟩ := h
    simp only at p1 p2 p3 p4
    subst p1
    have hk16 : k < 16 := by omega
    obtain ⟨mn, n1, n2, n3, cn, n4, n5⟩ := hr n (Nat.le_refl _)
    obtain ⟨mk, k1, k2, k3, ck, k4, k5⟩ := hr k (by omega)
    have en : X (F (F (G (F b 1) n) 0) 1) = A (F (F (G (F b 1) n) 0) 1) := p2 _ (fun j hj => ppsh n hn j hj)
    have ek : X (F (F (G (F b 1) k) 0) 1) = A (F (F (G (F b 1) k) 0) 1) := p2 _ (fun j hj => ppsh k hk16 j hj)
    obtain ⟨q, z1, z2, z3⟩ := s_shareWith (F := F) (G := G) (I := I) (A := X) n4 k4 (by have := n5.1; omega) (by have := k5.1; omega) (by rw [en]; exact n5.2.1)
    have z4 : k = n → q = 100 := fun hkn => by
      subst hkn
      refine z3 ?_ (fun j hj => ?_)
      · obtain ⟨j, hj, -⟩ := n5.2.2.2 0 (by omega)
        omega
      · have : ck = cn := (i32_inj (by have := k5.1; omega) (by have := n5.1; omega)).mp (k4.symm.trans n4)
        subst this
        exact hasB_t.mpr ⟨j, hj, rfl⟩
    have rd : ∀ i j, shv F G b (up2 (up2 X (G (F b 2) n) k (i32 q)) (G (F b 2) k) n (i32 q)) i j = if G (F b 2) i = G (F b 2) k ∧ j = n then i32 q else if G (F b 2) i = G (F b 2) n ∧ j = k then i32 q else shv F G b X i j := fun i j => by
      unfold shv up2
      by_cases h1 : G (F b 2) i = G (F b 2) k <;> by_cases h2 : G (F b 2) i = G (F b 2) n <;> by_cases h3 : j = n <;> by_cases h4 : j = k <;> simp [h1, h2, h3, h4]
    refine ⟨(i32 (k + 1), up2 (up2 X (G (F b 2) n) k (i32 q)) (G (F b 2) k) n (i32 q)), ?_, rfl, fun a ha => ?_, fun o ho => ?_, fun i j hi hj => ?_⟩
    · have hlt : ¬ i32 n < i32 k := fun w => by
        have := (i32_lt (by omega) (by omega)).mp w
        omega
      refine (if_neg hlt).trans ((zck_s (i32_in hk16 (by decide))).trans ?_)
      rw [i32_nat (by omega)]
      refine (zb_s z2).trans ((zck_s (i32_in hn (by decide))).trans ((zck_s (i32_in2 hk16 (by decide))).trans ?_))
      rw [hn16]
      refine (zck_s (i32_in2 hk16 (by decide))).trans ((zck_s (i32_in2 hn (by decide))).trans ?_)
      rw [i32_add1]
      rfl
    · dsimp only
      rw [up2_f _ _ _ (ha k hk16), up2_f _ _ _ (ha n hn)]
      exact p2 a ha
    · dsimp only
      by_cases hok : o = k
      · subst hok
        refine ⟨q, z1, ?_, ?_, z4⟩
        · rw [rd]
          split
          · rfl
          · rw [if_pos ⟨rfl, rfl⟩]
        · rw [rd, if_pos ⟨rfl, rfl⟩]
      · obtain ⟨q', w1, w2, w3, w4⟩ := p3 o (by omega)
        refine ⟨q', w1, ?_, ?_, w4⟩
        · rw [rd, if_neg (fun w => by omega), if_neg (fun w => hok w.2)]
          exact w2
        · rw [rd, if_neg (fun w => shne o k (by omega) hk16 hok w.1), if_neg (fun w => shne o n (by omega) hn (by omega) w.1)]
          exact w3
    · dsimp only
      rw [rd, if_neg (fun w => by omega), if_neg (fun w => shne i n (by omega) hn (by omega) w.1)]
      exact p4 i j hi hj
  · obtain ⟨x1, X⟩ := x
    obtain ⟨p1, p⟩ := h
    simp only at p1
    subst p1
    exact ⟨_, if_pos ((i32_lt (by omega) (by omega)).mpr (by omega)), p⟩
theorem pcIn_s {p : Int32} (h : pcIn n p) : pcIn (n + 1) p := h.imp id fun ⟨k, hk, e⟩ => ⟨k, by omega, e⟩
theorem ren_0 {x : Int32} (h : 0 ≤ x) : ren (i32 0) x = x := by
  rcases nn_cases h with ⟨a, ha, rfl, h1⟩ | h1
  · unfold ren
    rw [if_neg h1, z_ren 0 (by decide) a ha]
    congr 1
    omega
  · unfold ren
    rw [if_pos h1]
theorem s_keep (ad : AD F G b ix) (h : Inv F G b n I A) {m : Nat} (hn : n < 16) (hm : 4 ≤ m) (hm2 : m ≤ 12) (hI : I (F b 0) 2 = i32 m) : ∃ I' A', f_X5_keep F G b I A = some (i32 n, I', A') ∧ Inv F G b (n + 1) I' A' := by
  obtain ⟨⟨h1, h2, h3, h4, h5, h6, h7⟩, -⟩ := h
  obtain ⟨g1, g2, g3, g4, g5⟩ := h1
  obtain ⟨m', q1, q2, q3, qc⟩ := h2
  have hmm : m' = m := (i32_inj (by omega) (by omega)).mp (q2.symm.trans hI)
  subst hmm
  obtain ⟨I4, A5, e, i1, a1, t1, w1⟩ := s_become (F := F) (G := G) (I := I) (A := A) (r := F (G (F b 1) n) 0) (o := F b 0) (sh := 0) (ad_ne (ad.pr hn) ad.d (by omega)) (ad_ne (ad.pt hn) (ad.pp hn) (by omega)) (ad_ne ad.dt (ad.pt hn) (by omega)) q1 q2
  have hbr : b ≠ F (G (F b 1) n) 0 := ad_ne ad.b0 (ad.pr hn) (by omega)
  have iO : ∀ a, a ≠ F (G (F b 1) n) 0 → a ≠ b → (up2 I4 b 8 (i32 (n + 1))) a = I a := fun a z1 z2 => by
    rw [up2_f _ _ _ z2]
    exact funext fun k => i1 a k (Or.inl z1)
  have rows : ∀ i, i ≤ n → ∃ m, 4 ≤ m ∧ m ≤ 12 ∧ rowIs F (F (G (F b 1) i) 0) m (up2 I4 b 8 (i32 (n + 1))) A5 ∧ ∀ j, j < m → 0 ≤ A5 (F (F (G (F b 1) i) 0) 0) j := fun i hi => by
    have hi16 : i < 16 := by omega
    by_cases hin : i = n
    · subst hin
      refine ⟨m', hm, hm2, w1.cg (up2_a _ _ _ _ hbr.symm) (up2_a _ _ _ _ hbr.symm) rfl rfl, fun j hj => ?_⟩
      rw [t1 j hj, ren_0 (q3 j hj)]
      exact q3 j hj
    · obtain ⟨mi, r1, r2, r3, r4⟩ := h3 i (by omega)
      have z1 : F (G (F b 1) i) 0 ≠ F (G (F b 1) n) 0 := ad_ne (ad.pr hi16) (ad.pr hn) (by omega)
      have z2 : F (G (F b 1) i) 0 ≠ b := ad_ne (ad.pr hi16) ad.b0 (by omega)
      have z3 : A5 (F (F (G (F b 1) i) 0) 0) = A (F (F (G (F b 1) i) 0) 0) := a1 _ (ad_ne (ad.pt hi16) (ad.pt hn) (by omega)) (ad_ne (ad.pt hi16) (ad.pp hn) (by omega))
      have z4 : A5 (F (F (G (F b 1) i) 0) 1) = A (F (F (G (F b 1) i) 0) 1) := a1 _ (ad_ne (ad.pp hi16) (ad.pt hn) (by omega)) (ad_ne (ad.pp hi16) (ad.pp hn) (by omega))
      exact ⟨mi, r1, r2, r3.cg (by rw [iO _ z1 z2]) (by rw [iO _ z1 z2]) z3 z4, by rw [z3]; exact r4⟩
  obtain ⟨A9, e9, b1, b2, b3⟩ := s_takeShares (G := G) ad hn (fun i hi => by
    obtain ⟨m, r1, r2, r3, -⟩ := rows i hi
    exact ⟨m, r1, r2, r3⟩)
  have aS : ∀ i, i < 16 → A5 (G (F b 2) i) = A (G (F b 2) i) := fun i hi => a1 _ (ad_ne (ad.sh hi) (ad.pt hn) (by omega)) (ad_ne (ad.sh hi) (ad.pp hn) (by omega))
  have pre : Pre F G b (n + 1) (up2 I4 b 8 (i32 (n + 1))) A9 := by
    have iB : ∀ k, k ≠ 8 → up2 I4 b 8 (i32 (n + 1)) b k = I b k := fun k hk => by
      rw [up2_k _ _ _ hk]
      exact i1 b k (Or.inl hbr)
    refine ⟨⟨by omega, up2_at _ _ _ _, by rw [iB 9 (by decide)]; exact g3, by rw [iB 10 (by decide)]; exact g4, by rw [iB 12 (by decide)]; exact g5⟩, ?_, fun i hi => ?_, ⟨fun i j hi hj => ?_, fun i hi => ?_⟩, ?_, ?_, fun p hp => ?_⟩
    · refine pD.cg (I := I) (A := A) ⟨m', q1, q2, q3, qc⟩ (fun _ _ => by rw [iO _ (ad_ne ad.d (ad.pr hn) (by omega)) (ad_ne ad.d ad.b0 (by decide))]) ?_
      rw [b1 _ (fun i hi => ad_ne ad.dt (ad.sh hi) (by omega))]
      exact a1 _ (ad_ne ad.dt (ad.pt hn) (by omega)) (ad_ne ad.dt (ad.pp hn) (by omega))
    · obtain ⟨m, r1, r2, r3, r4⟩ := rows i (by omega)
      have hi16 : i < 16 := by omega
      have z3 : A9 (F (F (G (F b 1) i) 0) 0) = A5 (F (F (G (F b 1) i) 0) 0) := b1 _ (fun j hj => ad_ne (ad.pt hi16) (ad.sh hj) (by omega))
      have z4 : A9 (F (F (G (F b 1) i) 0) 1) = A5 (F (F (G (F b 1) i) 0) 1) := b1 _ (fun j hj => ad_ne (ad.pp hi16) (ad.sh hj) (by omega))
      exact ⟨m, r1, r2, r3.cg rfl rfl z3 z4, by rw [z3]; exact r4⟩
    · by_cases hin : i = n
      · subst hin
        obtain ⟨q, s1, s2, s3, -⟩ := b2 j (by omega)
        exact ⟨q, s1, s2, s3⟩
      · by_cases hjn : j = n
        · subst hjn
          obtain ⟨q, s1, s2, s3, -⟩ := b2 i (by omega)
          exact ⟨q, s1, s3, s2⟩
        · rw [b3 i j (by omega) (by omega), b3 j i (by omega) (by omega), shv_cg aS i (by omega), shv_cg aS j (by omega)]
          exact h4.1 i j (by omega) (by omega)
    · by_cases hin : i = n
      · subst hin
        obtain ⟨q, s1, s2, s3, s4⟩ := b2 i (Nat.le_refl _)
        rw [s2, s4 rfl]
      · rw [b3 i i (by omega) (by omega), shv_cg aS i (by omega)]
        exact h4.2 i (by omega)
    · exact h5.cg (fun i hi => by rw [iO _ (ad_ne (ad.pc hi) (ad.pr hn) (by omega)) (ad_ne (ad.pc hi) ad.b0 (by omega))])
    · exact h6.cg (fun l hl => by rw [iO _ (ad_ne (ad.lc hl) (ad.pr hn) (by omega)) (ad_ne (ad.lc hl) ad.b0 (by omega))])
    · have hp5 : p < 5 := by omega
      rw [iO _ (ad_ne (ad.pj hp5) (ad.pr hn) (by omega)) (ad_ne (ad.pj hp5) ad.b0 (by omega)), b1 _ (fun j hj => ad_ne (ad.pa hp5 (by decide : 2 < 4)) (ad.sh hj) (by omega)), a1 _ (ad_ne (ad.pa hp5 (by decide : 2 < 4)) (ad.pt hn) (by omega)) (ad_ne (ad.pa hp5 (by decide : 2 < 4)) (ad.pp hn) (by omega))]
      exact ⟨(h7 p hp).1, fun k hk hb' => pcIn_s ((h7 p hp).2 k hk hb')⟩
  obtain ⟨I', A', e', z1, z2, -⟩ := settle_inv ad pre
  refine ⟨I', A', ?_, z1, z2⟩
  unfold f_X5_keep
  refine (if_pos (by rw [q2]; exact le_t hm (by omega))).trans ((if_pos (by rw [g2]; exact (i32_lt (b := 16) (by omega) (by decide)).mpr hn)).trans ((zck_s (by rw [g2]; exact i32_in hn (by decide))).trans ?_))
  rw [g2, i32_nat (by omega)]
  refine (zb2_s e).trans ?_
  unfold zlet
  rw [i32_add1]
  exact (zb_s e9).trans (zb3_s e')
end ZKP
