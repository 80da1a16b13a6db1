/-! rows of tokens and their prints -/
def fpg (q : Nat → Bool) : Nat → Nat → Nat
  | 0, d => d
  | f + 1, d => if q d then d else fpg q f (d + 1)
theorem fpg_cg {q q' : Nat → Bool} (f d : Nat) (h : ∀ e, e < d + f → q e = q' e) : fpg q f d = fpg q' f d := by
  induction f generalizing d with
  | zero => rfl
  | succ f ih =>
    unfold fpg
    rw [h d (by omega), ih (d + 1) (fun e he => h e (by omega))]
theorem fpg_le (q : Nat → Bool) (f d : Nat) : fpg q f d ≤ d + f := by
  induction f generalizing d with
  | zero => exact Nat.le_refl _
  | succ f ih =>
    unfold fpg
    split
    · omega
    · have := ih (d + 1)
      omega
/-- where the name at place s + e is found first, from s on -/
def fpv (t : Nat → Int32) (s e : Nat) : Int32 := i32 (fpg (fun d => decide (t (s + d) = t (s + e))) e 0)
def prv (t : Nat → Int32) (s : Nat) : Int32 := zfo (fun e acc => if 10 ≤ t (s + e) then acc * 30 + t (s + e) else acc * 30 + fpv t s e) 4 0
def hasB (p : Nat → Int32) (c : Nat) (v : Int32) : Bool := (List.range c).any fun j => decide (p j = v)
theorem hasB_t {p : Nat → Int32} {c : Nat} {v : Int32} : hasB p c v = true ↔ ∃ j, j < c ∧ p j = v := by
  unfold hasB
  rw [List.any_eq_true]
  constructor
  · rintro ⟨j, h1, h2⟩
    exact ⟨j, List.mem_range.mp h1, of_decide_eq_true h2⟩
  · rintro ⟨j, h1, h2⟩
    exact ⟨j, List.mem_range.mpr h1, decide_eq_true h2⟩
section ZRW
variable {F G : Nat → Nat → Nat} {I A : zH}
theorem s_firstPlace {r s e : Nat} (h : s + e < 12) : f_X4_firstPlace F G r (i32 s) (i32 (s + e)) I A = some (fpv (A (F r 0)) s e) := by
  unfold f_X4_firstPlace fpv
  generalize hq : (fun d => decide (A (F r 0) (s + d) = A (F r 0) (s + e))) = q
  have key : ∀ f d N, d + f = e → f < N → (∃ x, zIt (fun x => g_X4_firstPlace_2 F G r (i32 s) (i32 (s + e)) x I A) N (i32 (s + d)) = some (.inl x) ∧ fpg q f d = e) ∨ zIt (fun x => g_X4_firstPlace_2 F G r (i32 s) (i32 (s + e)) x I A) N (i32 (s + d)) = some (.inr (i32 (fpg q f d))) := by
    intro f
    induction f with
    | zero =>
      intro d N hd hN
      obtain ⟨N, rfl⟩ : ∃ M, N = M + 1 := ⟨N - 1, by omega⟩
      have e0 : d = e := by omega
      subst e0
      refine Or.inl ⟨i32 (s + d), ?_, rfl⟩
      unfold zIt
      have : g_X4_firstPlace_2 F G r (i32 s) (i32 (s + d)) (i32 (s + d)) I A = some (.inr (.inl (i32 (s + d)))) := if_pos (le_t (Nat.le_refl _) (by omega))
      rw [this]
    | succ f ih =>
      intro d N hd hN
      obtain ⟨N, rfl⟩ : ∃ M, N = M + 1 := ⟨N - 1, by omega⟩
      have e0 : g_X4_firstPlace_2 F G r (i32 s) (i32 (s + e)) (i32 (s + d)) I A = _ := (if_neg (le_f (by omega : s + d < s + e) (by omega))).trans ((zck_s (i32_in (by omega : s + d < 12) (by decide))).trans (zck_s (i32_in h (by decide))))
      rw [i32_nat (by omega), i32_nat (by omega)] at e0
      unfold fpg zIt
      by_cases hm : A (F r 0) (s + d) = A (F r 0) (s + e)
      · rw [if_pos hm, i32_sub (by omega), show s + d - s = d by omega] at e0
        have hqd : q d = true := by rw [← hq]; exact decide_eq_true hm
        rw [e0, if_pos hqd]
        exact Or.inr rfl
      · rw [if_neg hm, i32_add1] at e0
        have hqd : ¬ q d = true := by rw [← hq]; exact fun z => hm (of_decide_eq_true z)
        rw [e0, if_neg hqd]
        exact ih (d + 1) N (by omega) (by omega)
  rcases key e 0 2000 (by omega) (by omega) with ⟨x, h1, h2⟩ | h1
  · refine (zs_l h1).trans ?_
    rw [h2, i32_sub (by omega), show s + e - s = e by omega]
  · exact zs_r h1
theorem s_printAt {r s : Nat} (h : s + 4 ≤ 12) : f_X4_printAt F G r (i32 s) I A = some (prv (A (F r 0)) s) := by
  unfold f_X4_printAt prv
  have key := zIt_inv (fun x : Int32 × Int32 => g_X4_printAt_4 F G r (i32 s) x.1 x.2 I A) 4 (fun e x => x = (zfo (fun e acc => if 10 ≤ A (F r 0) (s + e) then acc * 30 + A (F r 0) (s + e) else acc * 30 + fpv (A (F r 0)) s e) e 0, i32 (s + e))) (fun b => b.1 = zfo (fun e acc => if 10 ≤ A (F r 0) (s + e) then acc * 30 + A (F r 0) (s + e) else acc * 30 + fpv (A (F r 0)) s e) 4 0) (by decide) (fun e x he hx => ?_) (fun x hx => ?_) (k0 := 0) (by decide) (x := (0, i32 s)) rfl
  · obtain ⟨⟨b1, b2⟩, hb', hb2⟩ := key
    simp only at hb2
    subst hb2
    exact zb2_s hb'
  · subst hx
    have e4 : i32 s + 4 = i32 (s + 4) := i32_add s 4
    refine ⟨_, (if_neg (by rw [e4]; exact le_f (by omega) (by omega))).trans ((zck_s (i32_in (by omega : s + e < 12) (by decide))).trans ?_), rfl⟩
    dsimp only
    rw [i32_nat (by omega)]
    have st : ∀ f : Nat → Int32 → Int32, zfo f (e + 1) 0 = f e (zfo f e 0) := fun f => rfl
    rw [st]
    by_cases h10 : 10 ≤ A (F r 0) (s + e)
    · rw [if_pos h10, if_pos h10]
      refine (zck_s (i32_in2 (by omega : s + e < 12) (by decide))).trans ?_
      rw [i32_add1]
      rfl
    · rw [if_neg h10, if_neg h10]
      refine (zb_s (s_firstPlace (by omega))).trans ?_
      rw [i32_add1]
      rfl
  · subst hx
    have e4 : i32 s + 4 = i32 (s + 4) := i32_add s 4
    exact ⟨_, if_pos (by rw [e4]; exact le_t (Nat.le_refl _) (by omega)), rfl⟩
theorem s_hasPrint {r c : Nat} {v : Int32} (hI : I r 3 = i32 c) (hc : c ≤ 9) : f_X4_hasPrint F G r v I A = some (bit1 (hasB (A (F r 1)) c v)) := by
  unfold f_X4_hasPrint
  have h := zIt_gx (fun x => g_X4_hasPrint_2 F G r v x I A) (fun k x => k ≤ c ∧ x = i32 (c - k) ∧ ∀ j, j < c - k → A (F r 1) j ≠ v) (fun b => (b = .inr 1 ∧ hasB (A (F r 1)) c v = true) ∨ ((∃ x, b = .inl x) ∧ hasB (A (F r 1)) c v = false)) (fun k x h => by
    obtain ⟨h1, rfl, h2⟩ := h
    have hk : c - (k + 1) < c := by omega
    have e : g_X4_hasPrint_2 F G r v (i32 (c - (k + 1))) I A = _ := (if_neg (by rw [hI]; exact le_f hk (by omega))).trans (zck_s (i32_in (by omega : c - (k + 1) < 9) (by decide)))
    rw [i32_nat (by omega)] at e
    by_cases h3 : A (F r 1) (c - (k + 1)) = v
    · exact Or.inr ⟨_, e.trans (if_pos h3), Or.inl ⟨rfl, hasB_t.mpr ⟨_, hk, h3⟩⟩⟩
    · refine Or.inl ⟨i32 (c - k), e.trans ((if_neg h3).trans ?_), by omega, rfl, fun j hj => ?_⟩
      · rw [i32_add1, show c - (k + 1) + 1 = c - k by omega]
      · by_cases hj2 : j < c - (k + 1)
        · exact h2 j hj2
        · rw [show j = c - (k + 1) by omega]
          exact h3) (fun x h => by
    obtain ⟨h1, rfl, h2⟩ := h
    refine ⟨_, if_pos (by rw [hI]; exact le_t (Nat.le_refl _) (by omega)), Or.inr ⟨⟨_, rfl⟩, Bool.eq_false_iff.mpr fun q => ?_⟩⟩
    obtain ⟨j, hj, hv⟩ := hasB_t.mp q
    exact h2 j (by omega) hv) 2000 c 0 (by omega) ⟨Nat.le_refl _, by rw [Nat.sub_self]; rfl, fun j hj => by omega⟩
  obtain ⟨b, hb', h⟩ := h
  rcases h with ⟨rfl, h1⟩ | ⟨⟨x, rfl⟩, h1⟩
  · rw [h1]
    exact zs_r hb'
  · rw [h1]
    exact zs_l hb'
/-- the prints of a row of m tokens, each once -/
def prOk (t : Nat → Int32) (k : Nat) (p : Nat → Int32) (c : Nat) : Prop := c ≤ k ∧ (∀ i j, i < c → j < c → p i = p j → i = j) ∧ (∀ j, j < c → ∃ s, s < k ∧ p j = prv t s) ∧ ∀ s, s < k → ∃ j, j < c ∧ p j = prv t s
theorem s_takePrints {r m : Nat} (hr : F r 0 ≠ F r 1) (hm : m ≤ 12) (hI : I r 2 = i32 m) : ∃ I' A' c, f_X4_takePrints F G r I A = some (I', A') ∧ (∀ a k, a ≠ r ∨ k ≠ 3 → I' a k = I a k) ∧ I' r 3 = i32 c ∧ (∀ a, a ≠ F r 1 → A' a = A a) ∧ prOk (A (F r 0)) (m - 3) (A' (F r 1)) c := by
  unfold f_X4_takePrints
  have key := zIt_inv (fun x : Int32 × zH × zH => g_X4_takePrints_7 F G r x.1 x.2.1 x.2.2) (m - 3) (fun k x => x.1 = i32 k ∧ (∀ a j, a ≠ r ∨ j ≠ 3 → x.2.1 a j = I a j) ∧ (∀ a, a ≠ F r 1 → x.2.2 a = A a) ∧ ∃ c, x.2.1 r 3 = i32 c ∧ prOk (A (F r 0)) k (x.2.2 (F r 1)) c)
    (fun x => (∀ a j, a ≠ r ∨ j ≠ 3 → x.2.1 a j = I a j) ∧ (∀ a, a ≠ F r 1 → x.2.2 a = A a) ∧ ∃ c, x.2.1 r 3 = i32 c ∧ prOk (A (F r 0)) (m - 3) (x.2.2 (F r 1)) c) (by omega) (fun k x hk h => ?_) (fun x h => ?_) (k0 := 0) (Nat.zero_le _) (x := (i32 0, up2 I r 3 0, A)) ⟨rfl, fun a j h => ?_, fun _ _ => rfl, 0, up2_at _ _ _ _, Nat.le_refl _, fun i j hi => by omega, fun j hj => by omega, fun s hs => by omega⟩
  · obtain ⟨⟨x1, x2, x3⟩, e, h1, h2, c, h3, h4⟩ := key
    refine ⟨x2, x3, c, ?_, h1, h3, h2, h4⟩
    unfold zlet
    exact zb3_s e
  · obtain ⟨x1, X, Y⟩ := x
    obtain ⟨p1, p2, p3, c, p4, q1, q2, q3, q4⟩ := h
    simp only at p1 p2 p3 p4 q2 q3 q4
    subst p1
    have e4 : i32 k + 4 = i32 (k + 4) := i32_add k 4
    have hle : ¬ X r 2 < i32 k + 4 := by
      rw [p2 r 2 (Or.inr (by decide)), hI, e4]
      exact fun q => by
        have := (i32_lt (by omega) (by omega)).mp q
        omega
    have hpa := s_printAt (F := F) (G := G) (I := X) (A := Y) (r := r) (s := k) (by omega)
    rw [p3 _ hr] at hpa
    have hhp := s_hasPrint (F := F) (G := G) (A := Y) (v := prv (A (F r 0)) k) p4 (by omega)
    have e0 : g_X4_takePrints_7 F G r (i32 k) X Y = _ := (if_neg hle).trans ((zb_s hpa).trans (zb_s hhp))
    cases hh : hasB (Y (F r 1)) c (prv (A (F r 0)) k) with
    | false =>
      rw [hh] at e0
      refine ⟨(i32 (k + 1), up2 X r 3 (i32 (c + 1)), up2 Y (F r 1) c (prv (A (F r 0)) k)), e0.trans ((if_pos rfl).trans ?_), rfl, fun a j h => ?_, fun a ha => ?_, c + 1, up2_at _ _ _ _, by omega, fun i j hi hj hij => ?_, fun j hj => ?_, fun s hs => ?_⟩
      · refine (zck_s (by rw [p4]; exact i32_in (by omega) (by decide))).trans ?_
        rw [p4, i32_nat (by omega), i32_add1, i32_add1]
        rfl
      · dsimp only
        rcases h with h | h
        · rw [up2_a _ _ _ _ h]; exact p2 a j (Or.inl h)
        · by_cases har : a = r
          · subst har
            rw [up2_k _ _ _ h]; exact p2 a j (Or.inr h)
          · rw [up2_a _ _ _ _ har]; exact p2 a j (Or.inr h)
      · dsimp only
        rw [up2_f _ _ _ ha]
        exact p3 a ha
      · dsimp only at hij
        have nh : ∀ i, i < c → Y (F r 1) i ≠ prv (A (F r 0)) k := fun i hi q => by
          have := hasB_t.mpr ⟨i, hi, q⟩
          rw [hh] at this
          cases this
        by_cases h1 : i = c <;> by_cases h2 : j = c
        · omega
        · subst h1
          rw [up2_at, up2_k _ _ _ h2] at hij
          exact absurd hij.symm (nh j (by omega))
        · subst h2
          rw [up2_at, up2_k _ _ _ h1] at hij
          exact absurd hij (nh i (by omega))
        · rw [up2_k _ _ _ h1, up2_k _ _ _ h2] at hij
          exact q2 i j (by omega) (by omega) hij
      · dsimp only
        by_cases h1 : j = c
        · subst h1
          rw [up2_at]
          exact ⟨k, by omega, rfl⟩
        · rw [up2_k _ _ _ h1]
          obtain ⟨s, hs, e⟩ := q3 j (by omega)
          exact ⟨s, by omega, e⟩
      · dsimp only
        by_cases h1 : s = k
        · subst h1
          exact ⟨c, by omega, up2_at _ _ _ _⟩
        · obtain ⟨j, hj, e⟩ := q4 s (by omega)
          exact ⟨j, by omega, by rw [up2_k _ _ _ (by omega : j ≠ c)]; exact e⟩
    | true =>
      rw [hh] at e0
      refine ⟨(i32 (k + 1), X, Y), e0.trans ((if_neg (by decide)).trans (by rw [i32_add1])), rfl, p2, p3, c, p4, by omega, q2, fun j hj => ?_, fun s hs => ?_⟩
      · obtain ⟨s, hs, e⟩ := q3 j hj
        exact ⟨s, by omega, e⟩
      · by_cases h1 : s = k
        · subst h1
          obtain ⟨j, hj, e⟩ := hasB_t.mp hh
          exact ⟨j, hj, e⟩
        · exact q4 s (by omega)
  · obtain ⟨x1, X, Y⟩ := x
    obtain ⟨p1, p2, p⟩ := h
    simp only at p1 p2
    subst p1
    have e4 : i32 (m - 3) + 4 = i32 (m - 3 + 4) := i32_add (m - 3) 4
    refine ⟨_, if_pos ?_, p2, p⟩
    show X r 2 < i32 (m - 3) + 4
    rw [p2 r 2 (Or.inr (by decide)), hI, e4]
    exact (i32_lt (by omega) (by omega)).mpr (by omega)
  · dsimp only
    rcases h with h | h
    · exact up2_a _ _ _ _ h
    · by_cases har : a = r
      · subst har
        exact up2_k _ _ _ h
      · exact up2_a _ _ _ _ har
end ZRW
