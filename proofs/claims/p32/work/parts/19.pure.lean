/-! projects as values -/
/-- every node's content is a piece's number, or none -/
def conOk (nd : Int32) (con : Nat → Int32) : Prop := ∀ k, k < 10 → hb nd k = true → pcOk (con k)
section ZSQ
variable {F G : Nat → Nat → Nat} {I A : zH}
theorem s_countClashes {v B : Nat} (hc : conOk (I v 4) (A (F v 2))) : f_X3_countClashes F G v B I A = some (cntv (I v 4) (A (F v 1)) (A (F v 2)) (A (F B 0)) (A (F B 2)) (A (F B 3))) := by
  unfold f_X3_countClashes cntv
  refine zb2_s (zIt_fo (α := Int32) (n := 10) _ (fun _ _ => True) (by decide) (fun acc _ => ?_) (fun k acc hk _ => ⟨?_, trivial⟩) trivial).1
  · exact if_pos (le_t (Nat.le_refl 10) (by decide))
  · refine (if_neg (le_f hk (by decide))).trans ((zb_s (s_hasBit (by omega))).trans ?_)
    by_cases h1 : hb (I v 4) k = true
    · refine (if_neg (fun q => by rw [bit1_0.mp q] at h1; cases h1)).trans ((zck_s (i32_in hk (by decide))).trans ?_)
      rw [i32_nat (by omega)]
      refine (zb_s (s_clashesOf hk (hc k hk h1) hc)).trans ((zb_s (s_bc _)).trans ?_)
      rw [i32_add1, if_pos h1]
    · have h1 := Bool.eq_false_iff.mpr h1
      refine (if_pos (bit1_0.mpr h1)).trans ?_
      rw [i32_add1]
      simp only [h1]
      rfl
theorem s_duties {v B : Nat} (hc : conOk (I v 4) (A (F v 2))) : f_X3_duties F G v B I A = some (dutv (I v 4) (A (F v 2)) (A (F B 1)) (I v 5)) := by
  unfold f_X3_duties dutv
  refine zb2_s (zIt_fo (α := Int32) (n := 10) _ (fun _ _ => True) (by decide) (fun acc _ => ?_) (fun k acc hk _ => ⟨?_, trivial⟩) trivial).1
  · exact if_pos (le_t (Nat.le_refl 10) (by decide))
  · refine (if_neg (le_f hk (by decide))).trans ((zb_s (s_hasBit (by omega))).trans ?_)
    by_cases h1 : hb (I v 4) k = true
    · refine (if_neg (fun q => by rw [bit1_0.mp q] at h1; cases h1)).trans ((zck_s (i32_in hk (by decide))).trans ?_)
      rw [i32_nat (by omega)]
      refine (zb_s (s_dutiesOf (hc k hk h1))).trans ?_
      rw [i32_add1, if_pos h1]
    · have h1 := Bool.eq_false_iff.mpr h1
      refine (if_pos (bit1_0.mpr h1)).trans ?_
      rw [i32_add1]
      simp only [h1]
      rfl
theorem s_X3_usesOf {v : Nat} (p : Int32) : f_X3_usesOf F G v p I A = some (usv (I v 4) (A (F v 2)) p) := by
  unfold f_X3_usesOf usv
  refine zb2_s (zIt_fo (α := Int32) (n := 10) _ (fun _ _ => True) (by decide) (fun acc _ => ?_) (fun k acc hk _ => ⟨?_, trivial⟩) trivial).1
  · exact if_pos (le_t (Nat.le_refl 10) (by decide))
  · refine (if_neg (le_f hk (by decide))).trans ((zb_s (s_hasBit (by omega))).trans ?_)
    by_cases h1 : hb (I v 4) k = true
    · refine (if_neg (fun q => by rw [bit1_0.mp q] at h1; cases h1)).trans ((zck_s (i32_in hk (by decide))).trans ?_)
      rw [i32_nat (by omega), i32_add1]
      by_cases h2 : A (F v 2) k = p
      · rw [if_pos h2]
        simp [h1, h2]
      · rw [if_neg h2]
        simp [h1, h2]
    · have h1 := Bool.eq_false_iff.mpr h1
      refine (if_pos (bit1_0.mpr h1)).trans ?_
      rw [i32_add1]
      simp only [h1, Bool.false_and]
      rfl
theorem s_isInOrder {v B : Nat} (hc : conOk (I v 4) (A (F v 2))) : f_X3_isInOrder F G v B I A = some (bit1 (ordB (I v 4) (A (F v 1)) (A (F v 2)) (A (F B 0)) (A (F B 1)) (A (F B 2)) (A (F B 3)) (I v 5))) := by
  unfold f_X3_isInOrder ordB
  refine (zb_s (s_duties hc)).trans ?_
  by_cases h : dutv (I v 4) (A (F v 2)) (A (F B 1)) (I v 5) = 0
  · refine (if_pos h).trans ((zb_s (s_countClashes hc)).trans ?_)
    by_cases h2 : cntv (I v 4) (A (F v 1)) (A (F v 2)) (A (F B 0)) (A (F B 2)) (A (F B 3)) = 0
    · rw [if_pos h2]
      simp [h, h2]
    · rw [if_neg h2]
      simp [h2]
  · refine (if_neg h).trans ?_
    simp [h]
theorem s_isRecalledUnder {v B : Nat} (hc : conOk (I v 4) (A (F v 2))) : f_X3_isRecalledUnder F G v B I A = some (bit1 (decide (I v 6 = 1) && !(ordB (I v 4) (A (F v 1)) (A (F v 2)) (A (F B 0)) (A (F B 1)) (A (F B 2)) (A (F B 3)) (I v 5)))) := by
  unfold f_X3_isRecalledUnder
  by_cases h : I v 6 = 1
  · refine (if_pos h).trans ((zb_s (s_isInOrder hc)).trans ?_)
    cases hb' : ordB (I v 4) (A (F v 1)) (A (F v 2)) (A (F B 0)) (A (F B 1)) (A (F B 2)) (A (F B 3)) (I v 5) <;> simp [h]
  · refine (if_neg h).trans ?_
    simp [h]
theorem s_hasNode {v : Nat} {k : Nat} (hk : k < 10) : f_X3_hasNode F G v (i32 k) I A = some (bit1 (hb (I v 4) k)) := by
  unfold f_X3_hasNode
  refine (if_neg (i32_nn (by omega))).trans ((if_neg (le_f hk (by decide))).trans ((zb_s (s_hasBit (by omega))).trans ?_))
  cases hb (I v 4) k <;> rfl
theorem s_firstFree {v : Nat} : (∃ k, k < 10 ∧ hb (I v 4) k = false ∧ f_X3_firstFreeNode F G v I A = some (i32 k)) ∨ ((∀ k, k < 10 → hb (I v 4) k = true) ∧ f_X3_firstFreeNode F G v I A = some (-1)) := by
  unfold f_X3_firstFreeNode
  have h := zIt_gx (fun x => g_X3_firstFreeNode_2 F G v x I A) (fun k x => k ≤ 10 ∧ x = i32 (10 - k) ∧ ∀ j, j < 10 - k → hb (I v 4) j = true) (fun b => (∃ k, k < 10 ∧ hb (I v 4) k = false ∧ b = .inr (i32 k)) ∨ ((∀ k, k < 10 → hb (I v 4) k = true) ∧ ∃ x, b = .inl x)) (fun k x h => by
    obtain ⟨h1, rfl, h2⟩ := h
    have e : g_X3_firstFreeNode_2 F G v (i32 (10 - (k + 1))) I A = _ := (if_neg (le_f (n := 10) (by omega) (by decide))).trans (zb_s (s_hasBit (by omega)))
    by_cases h3 : hb (I v 4) (10 - (k + 1)) = true
    · refine Or.inl ⟨i32 (10 - k), e.trans ((if_neg (fun q => by rw [bit1_0.mp q] at h3; cases h3)).trans ?_), by omega, rfl, fun j hj => ?_⟩
      · rw [i32_add1, show 10 - (k + 1) + 1 = 10 - k by omega]
      · by_cases hj2 : j < 10 - (k + 1)
        · exact h2 j hj2
        · rw [show j = 10 - (k + 1) by omega]
          exact h3
    · have h3 := Bool.eq_false_iff.mpr h3
      exact Or.inr ⟨_, e.trans (if_pos (bit1_0.mpr h3)), Or.inl ⟨10 - (k + 1), by omega, h3, rfl⟩⟩) (fun x h => by
    obtain ⟨h1, rfl, h2⟩ := h
    exact ⟨_, if_pos (le_t (Nat.le_refl 10) (by decide)), Or.inr ⟨fun k hk => h2 k (by omega), _, rfl⟩⟩) 2000 10 0 (by decide) ⟨Nat.le_refl _, rfl, fun j hj => by omega⟩
  obtain ⟨b, hb', h⟩ := h
  rcases h with ⟨k, hk, h1, rfl⟩ | ⟨h1, x, rfl⟩
  · exact Or.inl ⟨k, hk, h1, zs_r hb'⟩
  · exact Or.inr ⟨h1, zs_l hb'⟩
/-! pure facts of the values -/
theorem hb_clv (nd : Int32) (ab con S R W : Nat → Int32) (a : Nat) (p : Int32) (k : Nat) : hb (clv nd ab con S R W a p) k = (decide (k < 10) && (hb nd k && clashB S R W p (if k = a then p else con k) (farB ab a k))) := hb_zset _ (by decide) k
theorem farB_sym (ab : Nat → Int32) (a b : Nat) : farB ab a b = farB ab b a := by
  unfold farB
  by_cases h : a = b
  · subst h; rfl
  · have h2 : ¬ b = a := fun q => h q.symm
    simp only [h, h2]
    cases hb (ab a) b <;> cases hb (ab b) a <;> rfl
/-- that pieces clash goes both ways -/
def symR (S R W : Nat → Int32) (n : Nat) : Prop := ∀ p q, p < n → q < n → (R p &&& S q = 0 ↔ R q &&& S p = 0) ∧ (W p &&& S q = 0 ↔ W q &&& S p = 0)
def pcIn (n : Nat) (p : Int32) : Prop := p = -1 ∨ ∃ k, k < n ∧ p = i32 k
theorem pcIn.ok {n : Nat} {p : Int32} (h : pcIn n p) (hn : n ≤ 16) : pcOk p := h.imp id fun ⟨k, hk, e⟩ => ⟨k, by omega, e⟩
theorem clashB_sym {S R W : Nat → Int32} {n : Nat} (hn : n ≤ 16) (h : symR S R W n) {p q : Int32} (hp : pcIn n p) (hq : pcIn n q) (far : Bool) : clashB S R W p q far = clashB S R W q p far := by
  unfold clashB
  rcases hp with rfl | ⟨k, hk, rfl⟩
  · simp
  · rcases hq with rfl | ⟨j, hj, rfl⟩
    · simp
    · rw [i32_nat (by omega), i32_nat (by omega)]
      obtain ⟨h1, h2⟩ := h k j hk hj
      cases far with
      | false =>
        have e : decide (R k &&& S j = 0) = decide (R j &&& S k = 0) := decide_eq_decide.mpr h1
        simp [e]
        cases decide (i32 k = -1) <;> cases decide (i32 j = -1) <;> simp
      | true =>
        have e : decide (W k &&& S j = 0) = decide (W j &&& S k = 0) := decide_eq_decide.mpr h2
        simp [e]
        cases decide (i32 k = -1) <;> cases decide (i32 j = -1) <;> simp
end ZSQ
