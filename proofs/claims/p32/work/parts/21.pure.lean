/-! loops that write -/
theorem i32_in2 {k n : Nat} (h : k < n) (hn : n < 2147483648) : ¬ (i32 k < 0 ∨ n ≤ k) := fun q => by
  rcases q with q | q
  · exact i32_nn (by omega) q
  · omega
theorem zIt_inv {σ ρ : Type} (B : σ → Option (σ ⊕ ρ)) (n : Nat) (J : Nat → σ → Prop) (Q : ρ → Prop) (hn : n < 1999) (hs : ∀ k x, k < n → J k x → ∃ y, B x = some (.inl y) ∧ J (k + 1) y) (h0 : ∀ x, J n x → ∃ r, B x = some (.inr r) ∧ Q r) {k0 : Nat} (hk : k0 ≤ n) {x : σ} (h : J k0 x) : ∃ r, zIt B 2000 x = some r ∧ Q r := by
  refine zIt_go B (fun k x => k ≤ n ∧ J (n - k) x) Q (fun k x h => ?_) (fun x h => h0 x h.2) 2000 (n - k0) x (by omega) ⟨by omega, by rw [show n - (n - k0) = k0 by omega]; exact h⟩
  obtain ⟨h1, h2⟩ := h
  obtain ⟨y, e, hy⟩ := hs _ x (by omega) h2
  exact ⟨y, e, by omega, by rw [show n - k = n - (k + 1) + 1 by omega]; exact hy⟩
theorem up2_at (A : zH) (a k : Nat) (v : Int32) : up2 A a k v a k = v := by simp [up2]
theorem up2_k (A : zH) (a : Nat) {k j : Nat} (v : Int32) (h : j ≠ k) : up2 A a k v a j = A a j := by simp [up2, h]
theorem up2_a (A : zH) {a b : Nat} (k : Nat) (v : Int32) (j : Nat) (h : b ≠ a) : up2 A a k v b j = A b j := by simp [up2, h]
theorem up2_f (A : zH) {a b : Nat} (k : Nat) (v : Int32) (h : b ≠ a) : up2 A a k v b = A b := funext fun j => up2_a A k v j h
section ZSR
variable {F G : Nat → Nat → Nat} {I A : zH}
/-- the arrays of project v and binding B that are read are apart from the scratch of v -/
def apCl (F : Nat → Nat → Nat) (v B : Nat) : Prop := F v 1 ≠ F v 3 ∧ F v 2 ≠ F v 3 ∧ F B 0 ≠ F v 3 ∧ F B 2 ≠ F v 3 ∧ F B 3 ≠ F v 3
theorem s_takeClashes {v B : Nat} (hc : conOk (I v 4) (A (F v 2))) (ha : apCl F v B) : ∃ A', f_X3_takeClashes F G v B I A = some (invv (clsv (I v 4) (A (F v 1)) (A (F v 2)) (A (F B 0)) (A (F B 2)) (A (F B 3))), A') ∧ (∀ a, a ≠ F v 3 → A' a = A a) ∧ (∀ k, k < 10 → A' (F v 3) k = clsv (I v 4) (A (F v 1)) (A (F v 2)) (A (F B 0)) (A (F B 2)) (A (F B 3)) k) := by
  obtain ⟨a1, a2, a3, a4, a5⟩ := ha
  generalize hcl : clsv (I v 4) (A (F v 1)) (A (F v 2)) (A (F B 0)) (A (F B 2)) (A (F B 3)) = c
  unfold f_X3_takeClashes
  have h := zIt_inv (fun x : Int32 × Int32 × zH => g_X3_takeClashes_4 F G v B x.1 x.2.1 x.2.2 I) 10 (fun k x => x.1 = zfo (fun k acc => acc ||| c k) k 0 ∧ x.2.1 = i32 k ∧ (∀ a, a ≠ F v 3 → x.2.2 a = A a) ∧ ∀ j, j < k → x.2.2 (F v 3) j = c j) (fun r => r.1 = invv c ∧ (∀ a, a ≠ F v 3 → r.2.2 a = A a) ∧ ∀ j, j < 10 → r.2.2 (F v 3) j = c j) (by decide) (fun k x hk h => ?_) (fun x h => ?_) (k0 := 0) (by decide) (x := (0, i32 0, A)) ⟨rfl, rfl, fun _ _ => rfl, fun j hj => by omega⟩
  · obtain ⟨⟨r1, r2, r3⟩, e, h1, h2, h3⟩ := h
    simp only at h1 h2 h3
    subst h1
    exact ⟨r3, zb3_s e, h2, h3⟩
  · obtain ⟨x1, x2, x3⟩ := x
    obtain ⟨h1, h2, h3, h4⟩ := h
    simp only at h1 h2 h3 h4
    subst h2
    have e : c k = clsv (I v 4) (A (F v 1)) (A (F v 2)) (A (F B 0)) (A (F B 2)) (A (F B 3)) k := by rw [hcl]
    unfold clsv at e
    refine ⟨(x1 ||| c k, i32 (k + 1), up2 x3 (F v 3) k (c k)), (if_neg (le_f hk (by decide))).trans ((zb_s (s_hasBit (by omega))).trans ?_), ?_, rfl, fun a ha => ?_, fun j hj => ?_⟩
    · by_cases h5 : hb (I v 4) k = true
      · rw [if_pos h5] at e
        refine (if_neg (fun q => by rw [bit1_0.mp q] at h5; cases h5)).trans ((zck_s (i32_in hk (by decide))).trans ?_)
        rw [i32_nat (by omega)]
        dsimp only
        rw [h3 _ a2]
        have hcl2 := s_clashesOf (F := F) (G := G) (I := I) (A := x3) (v := v) (B := B) hk (hc k hk h5) (by rw [h3 _ a2]; exact hc)
        rw [h3 _ a1, h3 _ a2, h3 _ a3, h3 _ a4, h3 _ a5, ← e] at hcl2
        refine (zb_s hcl2).trans ((zck_s (i32_in2 hk (by decide))).trans ?_)
        refine (zck_s (i32_in2 hk (by decide))).trans ?_
        rw [i32_add1, up2_at]
      · rw [if_neg h5] at e
        have h5 := Bool.eq_false_iff.mpr h5
        refine (if_pos (bit1_0.mpr h5)).trans ((zck_s (i32_in hk (by decide))).trans ((zck_s (i32_in hk (by decide))).trans ?_))
        rw [i32_nat (by omega), i32_add1, up2_at, e]
    · rw [h1]
      rfl
    · dsimp only
      rw [up2_f _ _ _ ha]
      exact h3 a ha
    · dsimp only
      by_cases hjk : j = k
      · subst hjk
        exact up2_at _ _ _ _
      · rw [up2_k _ _ _ hjk]
        exact h4 j (by omega)
  · obtain ⟨x1, x2, x3⟩ := x
    obtain ⟨h1, h2, h3, h4⟩ := h
    simp only at h1 h2 h3 h4
    subst h2
    exact ⟨(x1, i32 10, x3), if_pos (le_t (Nat.le_refl 10) (by decide)), h1, h3, h4⟩
theorem s_leavesNone {v : Nat} {s : Int32} {c : Nat → Int32} (hA : ∀ k, k < 10 → A (F v 3) k = c k) : f_X3_leavesNone F G v s I A = some (bit1 (lnB c s)) := by
  unfold f_X3_leavesNone
  have h := zIt_gx (fun x => g_X3_leavesNone_2 F G v s x I A) (fun k x => k ≤ 10 ∧ x = i32 (10 - k) ∧ ∀ j, j < 10 - k → (hb s j || decide (c j &&& (s ^^^ (-1)) = 0)) = true) (fun b => (b = .inr 0 ∧ lnB c s = false) ∨ ((∃ x, b = .inl x) ∧ lnB c s = true)) (fun k x h => by
    obtain ⟨h1, rfl, h2⟩ := h
    have hk : 10 - (k + 1) < 10 := by omega
    have e : g_X3_leavesNone_2 F G v s (i32 (10 - (k + 1))) I A = _ := (if_neg (le_f (n := 10) hk (by decide))).trans (zb_s (s_hasBit (by omega)))
    have nxt : (hb s (10 - (k + 1)) || decide (c (10 - (k + 1)) &&& (s ^^^ (-1)) = 0)) = true → ∀ j, j < 10 - k → (hb s j || decide (c j &&& (s ^^^ (-1)) = 0)) = true := fun q j hj => by
      by_cases hj2 : j < 10 - (k + 1)
      · exact h2 j hj2
      · rw [show j = 10 - (k + 1) by omega]
        exact q
    by_cases h3 : hb s (10 - (k + 1)) = true
    · refine Or.inl ⟨i32 (10 - k), e.trans ((if_neg (fun q => by rw [bit1_0.mp q] at h3; cases h3)).trans ?_), by omega, rfl, nxt (by rw [h3]; rfl)⟩
      rw [i32_add1, show 10 - (k + 1) + 1 = 10 - k by omega]
    · have h3 := Bool.eq_false_iff.mpr h3
      by_cases h4 : c (10 - (k + 1)) &&& (s ^^^ (-1)) = 0
      · refine Or.inl ⟨i32 (10 - k), e.trans ((if_pos (bit1_0.mpr h3)).trans ((zck_s (i32_in hk (by decide))).trans ?_)), by omega, rfl, nxt (by rw [h4]; simp)⟩
        rw [i32_nat (by omega), hA _ hk, if_pos h4, i32_add1, show 10 - (k + 1) + 1 = 10 - k by omega]
      · refine Or.inr ⟨_, e.trans ((if_pos (bit1_0.mpr h3)).trans ((zck_s (i32_in hk (by decide))).trans ?_)), Or.inl ⟨rfl, ?_⟩⟩
        · rw [i32_nat (by omega), hA _ hk, if_neg h4]
        · refine Bool.eq_false_iff.mpr fun q => ?_
          have := List.all_eq_true.mp q _ (List.mem_range.mpr hk)
          rw [h3, Bool.false_or, decide_eq_true_eq] at this
          exact h4 this) (fun x h => by
    obtain ⟨h1, rfl, h2⟩ := h
    exact ⟨_, if_pos (le_t (Nat.le_refl 10) (by decide)), Or.inr ⟨⟨_, rfl⟩, List.all_eq_true.mpr fun k hk => h2 k (List.mem_range.mp hk)⟩⟩) 2000 10 0 (by decide) ⟨Nat.le_refl _, rfl, fun j hj => by omega⟩
  obtain ⟨b, hb', h⟩ := h
  rcases h with ⟨rfl, h1⟩ | ⟨⟨x, rfl⟩, h1⟩
  · rw [h1]
    exact zs_r hb'
  · rw [h1]
    exact zs_l hb'
theorem clsv_in (nd : Int32) (ab con S R W : Nat → Int32) : ∀ k, k < 10 → hbIn (clsv nd ab con S R W k) 10 := fun k _ => by
  unfold clsv
  split
  · exact clv_in _ _ _ _ _ _ _ _
  · exact fun j _ => hb_zero j
theorem s_fewest {v B : Nat} (hc : conOk (I v 4) (A (F v 2))) (ha : apCl F v B) : ∃ A', f_X3_fewestToEmpty F G v B I A = some (remv (clsv (I v 4) (A (F v 1)) (A (F v 2)) (A (F B 0)) (A (F B 2)) (A (F B 3))), A') ∧ (∀ a, a ≠ F v 3 → A' a = A a) := by
  obtain ⟨A', h1, h2, h3⟩ := s_takeClashes (G := G) hc ha
  refine ⟨A', ?_, h2⟩
  unfold f_X3_fewestToEmpty
  refine (zb2_s h1).trans ?_
  have hin := clsv_in (I v 4) (A (F v 1)) (A (F v 2)) (A (F B 0)) (A (F B 2)) (A (F B 3))
  generalize clsv (I v 4) (A (F v 1)) (A (F v 2)) (A (F B 0)) (A (F B 2)) (A (F B 3)) = c at h3 hin ⊢
  obtain ⟨m, hm, em⟩ := hb_10 (invv_in hin)
  have e0 : (invv c).toNatClampNeg = m := by rw [em, i32_nat (by omega)]
  unfold remv
  rw [e0]
  refine zb2_s (zIt_fo (α := Int32) (n := m) _ (fun _ _ => True) (by omega) (fun acc _ => ?_) (fun k acc hk _ => ⟨?_, trivial⟩) trivial).1
  · rw [em]
    exact if_pos (le_t (Nat.le_refl m) (by omega))
  · have hle : ¬ invv c ≤ i32 k := by rw [em]; exact le_f hk (by omega)
    refine (if_neg hle).trans ?_
    show (if (i32 k &&& (invv c ^^^ (-1))) = 0 then _ else _) = _
    by_cases h5 : i32 k &&& (invv c ^^^ (-1)) = 0
    · rw [if_pos h5]
      refine (zb_s (s_bc _)).trans ((zb_s (s_bc _)).trans ?_)
      by_cases h6 : bcv acc ≤ bcv (i32 k)
      · refine (if_pos h6).trans ?_
        rw [i32_add1]
        simp [h6]
      · refine (if_neg h6).trans ((zb_s (s_leavesNone h3)).trans ?_)
        rw [i32_add1]
        have e1 : decide (i32 k &&& (invv c ^^^ (-1)) = 0) = true := decide_eq_true h5
        have e2 : decide (bcv acc ≤ bcv (i32 k)) = false := decide_eq_false h6
        rw [e1, e2]
        cases h7 : lnB c (i32 k) <;> rfl
    · rw [if_neg h5, i32_add1]
      have e1 : decide (i32 k &&& (invv c ^^^ (-1)) = 0) = false := decide_eq_false h5
      rw [e1]
      rfl
end ZSR
