/-! the places of all the cells: one number each -/
def AD (F G : Nat → Nat → Nat) (b : Nat) (ix : Nat → Nat) : Prop :=
  ix b = 0 ∧ ix (F b 0) = 1 ∧ ix (F (F b 0) 0) = 2 ∧ ix (F (F b 0) 1) = 3 ∧ (∀ i, i < 16 → ix (G (F b 2) i) = 6 + i) ∧ ix (F b 3) = 22 ∧
  (∀ j, j < 4 → ix (F (F b 6) j) = 26 + j) ∧ (∀ j, j < 4 → ix (F (F b 7) j) = 31 + j) ∧
  (∀ i, i < 16 → ix (G (F b 1) i) = 35 + 4 * i) ∧ (∀ i, i < 16 → ix (F (G (F b 1) i) 0) = 36 + 4 * i) ∧ (∀ i, i < 16 → ix (F (F (G (F b 1) i) 0) 0) = 37 + 4 * i) ∧ (∀ i, i < 16 → ix (F (F (G (F b 1) i) 0) 1) = 38 + 4 * i) ∧
  (∀ k, k < 6 → ix (G (F b 4) k) = 99 + k) ∧ (∀ p, p < 5 → ix (G (F b 5) p) = 105 + 5 * p) ∧ (∀ p, p < 5 → ∀ j, j < 4 → ix (F (G (F b 5) p) j) = 106 + 5 * p + j)
section ZAD
variable {F G : Nat → Nat → Nat} {b : Nat} {ix : Nat → Nat}
theorem AD.b0 (h : AD F G b ix) : ix b = 0 := h.1
theorem AD.d (h : AD F G b ix) : ix (F b 0) = 1 := h.2.1
theorem AD.dt (h : AD F G b ix) : ix (F (F b 0) 0) = 2 := h.2.2.1
theorem AD.dp (h : AD F G b ix) : ix (F (F b 0) 1) = 3 := h.2.2.2.1
theorem AD.sh (h : AD F G b ix) {i : Nat} (hi : i < 16) : ix (G (F b 2) i) = 6 + i := h.2.2.2.2.1 i hi
theorem AD.og (h : AD F G b ix) : ix (F b 3) = 22 := h.2.2.2.2.2.1
theorem AD.bd (h : AD F G b ix) {j : Nat} (hj : j < 4) : ix (F (F b 6) j) = 26 + j := h.2.2.2.2.2.2.1 j hj
theorem AD.sp (h : AD F G b ix) {j : Nat} (hj : j < 4) : ix (F (F b 7) j) = 31 + j := h.2.2.2.2.2.2.2.1 j hj
theorem AD.pc (h : AD F G b ix) {i : Nat} (hi : i < 16) : ix (G (F b 1) i) = 35 + 4 * i := h.2.2.2.2.2.2.2.2.1 i hi
theorem AD.pr (h : AD F G b ix) {i : Nat} (hi : i < 16) : ix (F (G (F b 1) i) 0) = 36 + 4 * i := h.2.2.2.2.2.2.2.2.2.1 i hi
theorem AD.pt (h : AD F G b ix) {i : Nat} (hi : i < 16) : ix (F (F (G (F b 1) i) 0) 0) = 37 + 4 * i := h.2.2.2.2.2.2.2.2.2.2.1 i hi
theorem AD.pp (h : AD F G b ix) {i : Nat} (hi : i < 16) : ix (F (F (G (F b 1) i) 0) 1) = 38 + 4 * i := h.2.2.2.2.2.2.2.2.2.2.2.1 i hi
theorem AD.lc (h : AD F G b ix) {k : Nat} (hk : k < 6) : ix (G (F b 4) k) = 99 + k := h.2.2.2.2.2.2.2.2.2.2.2.2.1 k hk
theorem AD.pj (h : AD F G b ix) {p : Nat} (hp : p < 5) : ix (G (F b 5) p) = 105 + 5 * p := h.2.2.2.2.2.2.2.2.2.2.2.2.2.1 p hp
theorem AD.pa (h : AD F G b ix) {p j : Nat} (hp : p < 5) (hj : j < 4) : ix (F (G (F b 5) p) j) = 106 + 5 * p + j := h.2.2.2.2.2.2.2.2.2.2.2.2.2.2 p hp j hj
/-- two places with two numbers are two places -/
theorem ad_ne {x y m n : Nat} (h1 : ix x = m) (h2 : ix y = n) (h : m ≠ n) : x ≠ y := fun q => h (by rw [← h1, ← h2, q])
theorem AD.apB6 (h : AD F G b ix) : apB F (F b 6) := ⟨ad_ne (h.bd (j := 0) (by decide)) (h.bd (j := 1) (by decide)) (by decide), ad_ne (h.bd (j := 0) (by decide)) (h.bd (j := 2) (by decide)) (by decide), ad_ne (h.bd (j := 0) (by decide)) (h.bd (j := 3) (by decide)) (by decide), ad_ne (h.bd (j := 1) (by decide)) (h.bd (j := 2) (by decide)) (by decide), ad_ne (h.bd (j := 1) (by decide)) (h.bd (j := 3) (by decide)) (by decide), ad_ne (h.bd (j := 2) (by decide)) (h.bd (j := 3) (by decide)) (by decide)⟩
theorem AD.apB7 (h : AD F G b ix) : apB F (F b 7) := ⟨ad_ne (h.sp (j := 0) (by decide)) (h.sp (j := 1) (by decide)) (by decide), ad_ne (h.sp (j := 0) (by decide)) (h.sp (j := 2) (by decide)) (by decide), ad_ne (h.sp (j := 0) (by decide)) (h.sp (j := 3) (by decide)) (by decide), ad_ne (h.sp (j := 1) (by decide)) (h.sp (j := 2) (by decide)) (by decide), ad_ne (h.sp (j := 1) (by decide)) (h.sp (j := 3) (by decide)) (by decide), ad_ne (h.sp (j := 2) (by decide)) (h.sp (j := 3) (by decide)) (by decide)⟩
theorem AD.shB6 (h : AD F G b ix) (i : Nat) (hi : i < 16) : G (F b 2) i ≠ F (F b 6) 0 ∧ G (F b 2) i ≠ F (F b 6) 1 ∧ G (F b 2) i ≠ F (F b 6) 2 ∧ G (F b 2) i ≠ F (F b 6) 3 := ⟨ad_ne (h.sh hi) (h.bd (j := 0) (by decide)) (by omega), ad_ne (h.sh hi) (h.bd (j := 1) (by decide)) (by omega), ad_ne (h.sh hi) (h.bd (j := 2) (by decide)) (by omega), ad_ne (h.sh hi) (h.bd (j := 3) (by decide)) (by omega)⟩
theorem AD.shB7 (h : AD F G b ix) (i : Nat) (hi : i < 16) : G (F b 2) i ≠ F (F b 7) 0 ∧ G (F b 2) i ≠ F (F b 7) 1 ∧ G (F b 2) i ≠ F (F b 7) 2 ∧ G (F b 2) i ≠ F (F b 7) 3 := ⟨ad_ne (h.sh hi) (h.sp (j := 0) (by decide)) (by omega), ad_ne (h.sh hi) (h.sp (j := 1) (by decide)) (by omega), ad_ne (h.sh hi) (h.sp (j := 2) (by decide)) (by omega), ad_ne (h.sh hi) (h.sp (j := 3) (by decide)) (by omega)⟩
end ZAD
/-! origins, and the settling of every change -/
section ZSS
variable {F G : Nat → Nat → Nat} {I A : zH}
theorem s_takeOrigins {b n : Nat} (hn : n ≤ 16) (hI : I b 8 = i32 n) (hsh : ∀ i, i < 16 → G (F b 2) i ≠ F b 3) :
    ∃ A', f_X5_takeOrigins F G b I A = some A' ∧ (∀ a, a ≠ F b 3 → A' a = A a) ∧ (∀ i, i < n → hbIn (A' (F b 3) i) i ∧ ∀ e, e < i → ¬ shv F G b A i e < I b 12 → hb (A' (F b 3) i) e = true) ∧ ∀ i, n ≤ i → A' (F b 3) i = A (F b 3) i := by
  unfold f_X5_takeOrigins
  have key := zIt_inv (fun x : Int32 × zH => g_X5_takeOrigins_2 F G b x.1 x.2 I) n (fun k x => x.1 = i32 k ∧ (∀ a, a ≠ F b 3 → x.2 a = A a) ∧ (∀ i, i < k → hbIn (x.2 (F b 3) i) i ∧ ∀ e, e < i → ¬ shv F G b A i e < I b 12 → hb (x.2 (F b 3) i) e = true) ∧ ∀ i, k ≤ i → x.2 (F b 3) i = A (F b 3) i)
    (fun r => (∀ a, a ≠ F b 3 → r.2 a = A a) ∧ (∀ i, i < n → hbIn (r.2 (F b 3) i) i ∧ ∀ e, e < i → ¬ shv F G b A i e < I b 12 → hb (r.2 (F b 3) i) e = true) ∧ ∀ i, n ≤ i → r.2 (F b 3) i = A (F b 3) i) (by omega) (fun k x hk h => ?_) (fun x h => ?_) (k0 := 0) (Nat.zero_le _) (x := (i32 0, A)) ⟨rfl, fun _ _ => rfl, fun i hi => by omega, fun _ _ => rfl⟩
  · obtain ⟨⟨r1, r2⟩, e, q⟩ := key
    exact ⟨r2, zb2_s e, q⟩
  · obtain ⟨x1, X⟩ := x
    obtain ⟨p1, p2, p3, p4⟩ := h
    simp only at p1 p2 p3 p4
    subst p1
    have hk16 : k < 16 := by omega
    have hle : ¬ I b 8 ≤ i32 k := by rw [hI]; exact le_f hk (by omega)
    obtain ⟨e1, e2, e3⟩ := zIt_fo (α := Int32) (B := fun x => g_X5_takeOrigins_14 F G b (i32 k) x.1 x.2 I X) (n := k) (fun e acc => if shv F G b A k e < I b 12 then acc else acc ||| (((1 : Int32) <<< (i32 e &&& 31)) ||| X (F b 3) e)) (fun m acc => hbIn acc k ∧ ∀ e, e < m → ¬ shv F G b A k e < I b 12 → hb acc e = true) (by omega) (fun acc _ => if_pos (le_t (Nat.le_refl k) (by omega))) (fun m acc hm hP => ⟨by
      refine (if_neg (le_f hm (by omega))).trans ((zck_s (i32_in hk16 (by decide))).trans ((zck_s (i32_in (by omega : m < 16) (by decide))).trans ?_))
      rw [i32_nat (by omega), i32_nat (by omega), p2 _ (hsh k hk16), i32_add1]
      by_cases h : shv F G b A k m < I b 12
      · exact (if_pos h).trans (congrArg some (congrArg Sum.inl (Prod.ext (if_pos h).symm rfl)))
      · refine (if_neg h).trans ((zck_s (i32_in2 (by omega : m < 16) (by decide))).trans ?_)
        exact congrArg some (congrArg Sum.inl (Prod.ext (if_neg h).symm rfl)), by
      obtain ⟨q1, q2⟩ := hP
      by_cases h : shv F G b A k m < I b 12
      · rw [if_pos h]
        refine ⟨q1, fun e he hse => ?_⟩
        by_cases hem : e = m
        · subst hem
          exact absurd h hse
        · exact q2 e (by omega) hse
      · rw [if_neg h]
        refine ⟨fun j hj => ?_, fun e he hse => ?_⟩
        · rw [hb_or, hb_or, hb_one (by omega), q1 j hj, (p3 m (by omega)).1 j (by omega)]
          have : ¬ j = m := by omega
          simp [this]
        · rw [hb_or, hb_or, hb_one (by omega)]
          by_cases hem : e = m
          · simp [hem]
          · rw [q2 e (by omega) hse]
            rfl⟩) (a := 0) ⟨fun j _ => hb_zero j, fun e he => by omega⟩
    refine ⟨(i32 (k + 1), up2 X (F b 3) k (zfo (fun e acc => if shv F G b A k e < I b 12 then acc else acc ||| (((1 : Int32) <<< (i32 e &&& 31)) ||| X (F b 3) e)) k 0)), ?_, rfl, fun a ha => ?_, fun i hi => ?_, fun i hi => ?_⟩
    · refine (if_neg hle).trans ((zb2_s e1).trans ((zck_s (i32_in hk16 (by decide))).trans ?_))
      rw [i32_nat (by omega), i32_add1]
      rfl
    · dsimp only
      rw [up2_f _ _ _ ha]
      exact p2 a ha
    · dsimp only
      by_cases hik : i = k
      · subst hik
        rw [up2_at]
        exact ⟨e2, e3⟩
      · rw [up2_k _ _ _ hik]
        exact p3 i (by omega)
    · dsimp only
      rw [up2_k _ _ _ (by omega : i ≠ k)]
      exact p4 i (by omega)
  · obtain ⟨x1, X⟩ := x
    obtain ⟨p1, p⟩ := h
    simp only at p1
    subst p1
    refine ⟨_, if_pos ?_, p⟩
    show I b 8 ≤ i32 n
    rw [hI]
    exact le_t (Nat.le_refl n) (by omega)
/-- project p would be recalled under binding B -/
def rcB (F G : Nat → Nat → Nat) (b B : Nat) (I A : zH) (p : Nat) : Bool := decide (I (G (F b 5) p) 6 = 1) && !(ordB (I (G (F b 5) p) 4) (A (F (G (F b 5) p) 1)) (A (F (G (F b 5) p) 2)) (A (F B 0)) (A (F B 1)) (A (F B 2)) (A (F B 3)) (I (G (F b 5) p) 5))
def cnum (c : Nat → Bool) (n : Nat) : Int32 := zfo (fun p acc => if c p then acc + 1 else acc) n 0
theorem s_settle22 {b pn : Nat} {ix : Nat → Nat} (ad : AD F G b ix) (hp : pn ≤ 5) (hI : I b 10 = i32 pn) (hc : ∀ p, p < pn → conOk (I (G (F b 5) p) 4) (A (F (G (F b 5) p) 2))) :
    ∃ I', zIt (fun x : Int32 × Int32 × zH => g_X5_settle_22 F G b x.1 x.2.1 x.2.2 A) 2000 (0, i32 0, I) = some (cnum (rcB F G b (F b 6) I A) pn, i32 pn, I') ∧
      (∀ a k, (∀ p, p < pn → a ≠ G (F b 5) p) ∨ (k ≠ 6 ∧ k ≠ 7) → I' a k = I a k) ∧ (∀ p, p < pn → I' (G (F b 5) p) 6 = if rcB F G b (F b 6) I A p then 2 else I (G (F b 5) p) 6) ∧ (∀ p, p < pn → I' (G (F b 5) p) 7 = if rcB F G b (F b 6) I A p then I (G (F b 5) p) 7 + 1 else I (G (F b 5) p) 7) := by
  have pne : ∀ p q, p < 5 → q < 5 → p ≠ q → G (F b 5) p ≠ G (F b 5) q := fun p q h1 h2 h3 => ad_ne (ad.pj h1) (ad.pj h2) (by omega)
  have bne : ∀ p, p < 5 → b ≠ G (F b 5) p := fun p h1 => ad_ne ad.b0 (ad.pj h1) (by omega)
  have key := zIt_inv (fun x : Int32 × Int32 × zH => g_X5_settle_22 F G b x.1 x.2.1 x.2.2 A) pn (fun q x => x.1 = cnum (rcB F G b (F b 6) I A) q ∧ x.2.1 = i32 q ∧
      (∀ a k, (∀ p, p < q → a ≠ G (F b 5) p) ∨ (k ≠ 6 ∧ k ≠ 7) → x.2.2 a k = I a k) ∧ (∀ p, p < q → x.2.2 (G (F b 5) p) 6 = if rcB F G b (F b 6) I A p then 2 else I (G (F b 5) p) 6) ∧ (∀ p, p < q → x.2.2 (G (F b 5) p) 7 = if rcB F G b (F b 6) I A p then I (G (F b 5) p) 7 + 1 else I (G (F b 5) p) 7))
      (fun r => r.1 = cnum (rcB F G b (F b 6) I A) pn ∧ r.2.1 = i32 pn ∧
      (∀ a k, (∀ p, p < pn → a ≠ G (F b 5) p) ∨ (k ≠ 6 ∧ k ≠ 7) → r.2.2 a k = I a k) ∧ (∀ p, p < pn → r.2.2 (G (F b 5) p) 6 = if rcB F G b (F b 6) I A p then 2 else I (G (F b 5) p) 6) ∧ (∀ p, p < pn → r.2.2 (G (F b 5) p) 7 = if rcB F G b (F b 6) I A p then I (G (F b 5) p) 7 + 1 else I (G (F b 5) p) 7)) (by omega) (fun q x hq h => ?_) (fun x h => ?_) (k0 := 0) (Nat.zero_le _) (x := (0, i32 0, I)) ⟨rfl, rfl, fun _ _ _ => rfl, fun p hp => by omega, fun p hp => by omega⟩
  · obtain ⟨⟨r1, r2, r3⟩, e, q1, q2, q⟩ := key
    simp only at q1 q2
    subst q1
    subst q2
    exact ⟨r3, e, q⟩
  · obtain ⟨x1, x2, X⟩ := x
    obtain ⟨p1, p2, p3, p4, p5⟩ := h
    simp only at p1 p2 p3 p4 p5
    subst p1
    subst p2
    have hq5 : q < 5 := by omega
    have hle : ¬ X b 10 ≤ i32 q := by rw [p3 b 10 (Or.inr (by decide)), hI]; exact le_f hq (by omega)
    have own : ∀ k, X (G (F b 5) q) k = I (G (F b 5) q) k := fun k => p3 _ k (Or.inl fun p hp => pne q p hq5 (by omega) (by omega))
    have e0 := s_isRecalledUnder (F := F) (G := G) (I := X) (A := A) (v := G (F b 5) q) (B := F b 6) (by rw [own]; exact hc q hq)
    rw [own, own, own] at e0
    have e1 : g_X5_settle_22 F G b (cnum (rcB F G b (F b 6) I A) q) (i32 q) X A = _ := (if_neg hle).trans ((zck_s (i32_in hq5 (by decide))).trans (zb_s (by rw [i32_nat (by omega)]; exact e0)))
    have en : cnum (rcB F G b (F b 6) I A) (q + 1) = if rcB F G b (F b 6) I A q then cnum (rcB F G b (F b 6) I A) q + 1 else cnum (rcB F G b (F b 6) I A) q := rfl
    cases hr : rcB F G b (F b 6) I A q with
    | false =>
      rw [hr] at en
      refine ⟨(cnum (rcB F G b (F b 6) I A) q, i32 (q + 1), X), e1.trans ((if_pos (bit1_0.mpr hr)).trans (by rw [i32_add1])), by rw [en]; rfl, rfl, fun a k h => ?_, fun p hp => ?_, fun p hp => ?_⟩
      · by_cases hak : a = G (F b 5) q
        · rcases h with h | h
          · exact absurd hak (h q (by omega))
          · exact p3 a k (Or.inr h)
        · exact p3 a k (h.imp (fun h p hp => h p (by omega)) id)
      · by_cases hpq : p = q
        · subst hpq
          rw [hr]
          exact own 6
        · exact p4 p (by omega)
      · by_cases hpq : p = q
        · subst hpq
          rw [hr]
          exact own 7
        · exact p5 p (by omega)
    | true =>
      rw [hr] at en
      refine ⟨(cnum (rcB F G b (F b 6) I A) q + 1, i32 (q + 1), up2 (up2 X (G (F b 5) q) 6 2) (G (F b 5) q) 7 (up2 X (G (F b 5) q) 6 2 (G (F b 5) q) 7 + 1)), e1.trans ((if_neg (fun z => by
        have z2 : rcB F G b (F b 6) I A q = false := bit1_0.mp z
        rw [hr] at z2
        cases z2)).trans ((zck_s (i32_in hq5 (by decide))).trans ((zck_s (i32_in hq5 (by decide))).trans ?_))), by rw [en]; rfl, rfl, fun a k h => ?_, fun p hp => ?_, fun p hp => ?_⟩
      · rw [i32_nat (by omega), i32_add1]
        rfl
      · dsimp only
        by_cases hak : a = G (F b 5) q
        · rcases h with h | h
          · exact absurd hak (h q (by omega))
          · subst hak
            rw [up2_k _ _ _ h.2, up2_k _ _ _ h.1]
            exact own k
        · rw [up2_a _ _ _ _ hak, up2_a _ _ _ _ hak]
          exact p3 a k (h.imp (fun h p hp => h p (by omega)) id)
      · dsimp only
        by_cases hpq : p = q
        · subst hpq
          rw [hr, up2_k _ _ _ (by decide), up2_at]
          rfl
        · rw [up2_a _ _ _ _ (pne p q (by omega) hq5 hpq), up2_a _ _ _ _ (pne p q (by omega) hq5 hpq)]
          exact p4 p (by omega)
      · dsimp only
        by_cases hpq : p = q
        · subst hpq
          rw [hr, up2_at, up2_k _ _ _ (by decide), own]
          rfl
        · rw [up2_a _ _ _ _ (pne p q (by omega) hq5 hpq), up2_a _ _ _ _ (pne p q (by omega) hq5 hpq)]
          exact p5 p (by omega)
  · obtain ⟨x1, x2, X⟩ := x
    obtain ⟨p1, p2, p3, p⟩ := h
    simp only at p1 p2 p3
    subst p1
    subst p2
    refine ⟨(_, i32 pn, X), if_pos ?_, rfl, rfl, p3, p⟩
    show X b 10 ≤ i32 pn
    rw [p3 b 10 (Or.inr (by decide)), hI]
    exact le_t (Nat.le_refl pn) (by omega)
end ZSS
