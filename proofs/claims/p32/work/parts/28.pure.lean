/-! rows that are written -/
section ZRX
variable {F G : Nat → Nat → Nat} {I A : zH}
/-- what a written row is: m tokens t, and their prints -/
def rowIs (F : Nat → Nat → Nat) (r m : Nat) (I A : zH) : Prop := I r 2 = i32 m ∧ ∃ c, I r 3 = i32 c ∧ prOk (A (F r 0)) (m - 3) (A (F r 1)) c
theorem s_append {r m : Nat} {tok : Int32} (hr : F r 0 ≠ F r 1) (hm : m < 12) (hI : I r 2 = i32 m) : ∃ I' A', f_X4_append F G r tok I A = some (I', A') ∧ (∀ a k, a ≠ r ∨ (k ≠ 2 ∧ k ≠ 3) → I' a k = I a k) ∧ (∀ a, a ≠ F r 0 → a ≠ F r 1 → A' a = A a) ∧ (∀ j, A' (F r 0) j = if j = m then tok else A (F r 0) j) ∧ rowIs F r (m + 1) I' A' := by
  obtain ⟨I', A', c, e, h1, h2, h3, h4⟩ := s_takePrints (F := F) (G := G) (I := up2 I r 2 (i32 (m + 1))) (A := up2 A (F r 0) m tok) (r := r) (m := m + 1) hr (by omega) (up2_at _ _ _ _)
  refine ⟨I', A', ?_, fun a k h => ?_, fun a h5 h6 => ?_, fun j => ?_, ?_, c, h2, ?_⟩
  · unfold f_X4_append
    rw [if_neg (by rw [hI]; exact le_f hm (by decide))]
    refine (zck_s (by rw [hI]; exact i32_in hm (by decide))).trans ?_
    rw [hI, i32_nat (by omega), i32_add1]
    unfold zlet
    exact zb2_s e
  · rw [h1 a k (h.imp id (fun h => h.2))]
    rcases h with h | h
    · exact up2_a _ _ _ _ h
    · by_cases har : a = r
      · subst har
        exact up2_k _ _ _ h.1
      · exact up2_a _ _ _ _ har
  · rw [h3 a h6]
    exact up2_f _ _ _ h5
  · rw [h3 _ hr]
    simp [up2]
  · rw [h1 r 2 (Or.inr (by decide))]
    exact up2_at _ _ _ _
  · rw [h3 _ hr]
    exact h4
theorem s_cut12 {r m : Nat} (hr : F r 0 ≠ F r 1) (hm : m ≤ 12) (hI : I r 2 = i32 m) : ∃ I' A', f_X4_dropFirst F G r 12 I A = some (I', A') ∧ (∀ a k, a ≠ r ∨ (k ≠ 2 ∧ k ≠ 3) → I' a k = I a k) ∧ (∀ a, a ≠ F r 1 → A' a = A a) ∧ rowIs F r 0 I' A' := by
  have hd : (if I r 2 < (12 : Int32) then I r 2 else 12) = i32 m := by
    rw [hI]
    by_cases h : m < 12
    · exact if_pos ((i32_lt (b := 12) (by omega) (by decide)).mpr h)
    · refine (if_neg (fun q => h ((i32_lt (b := 12) (by omega) (by decide)).mp q))).trans ?_
      rw [show m = 12 by omega]
      rfl
  obtain ⟨I', A', c, e, h1, h2, h3, h4⟩ := s_takePrints (F := F) (G := G) (I := up2 I r 2 0) (A := A) (r := r) (m := 0) hr (by omega) (up2_at _ _ _ _)
  refine ⟨I', A', ?_, fun a k h => ?_, h3, ?_, c, h2, ?_⟩
  · unfold f_X4_dropFirst
    rw [hd]
    have e0 : zIt (fun x => g_X4_dropFirst_11 F G r (i32 m) x.1 x.2 I) 2000 (i32 m, A) = some (i32 m, A) := by
      unfold zIt
      have : g_X4_dropFirst_11 F G r (i32 m) (i32 m) A I = some (.inr (i32 m, A)) := if_pos (by rw [hI]; exact le_t (Nat.le_refl _) (by omega))
      rw [this]
    refine (zb2_s e0).trans ?_
    have e1 : I r 2 - i32 m = 0 := by
      rw [hI, i32_sub (Nat.le_refl _), Nat.sub_self]
      rfl
    rw [e1]
    unfold zlet
    exact zb2_s e
  · rw [h1 a k (h.imp id (fun h => h.2))]
    rcases h with h | h
    · exact up2_a _ _ _ _ h
    · by_cases har : a = r
      · subst har
        exact up2_k _ _ _ h.1
      · exact up2_a _ _ _ _ har
  · rw [h1 r 2 (Or.inr (by decide))]
    exact up2_at _ _ _ _
  · rw [h3 _ hr]
    exact h4
theorem s_become {r o m sh : Nat} (hro : r ≠ o) (hr : F r 0 ≠ F r 1) (hto : F o 0 ≠ F r 0) (hm : m ≤ 12) (hI : I o 2 = i32 m) : ∃ I' A', f_X4_become F G r o (i32 sh) I A = some (I', A') ∧ (∀ a k, a ≠ r ∨ (k ≠ 2 ∧ k ≠ 3) → I' a k = I a k) ∧ (∀ a, a ≠ F r 0 → a ≠ F r 1 → A' a = A a) ∧ (∀ j, j < m → A' (F r 0) j = ren (i32 sh) (A (F o 0) j)) ∧ rowIs F r m I' A' := by
  have key := zIt_inv (fun x : Int32 × zH => g_X4_become_10 F G r o (i32 sh) x.1 x.2 (up2 I r 2 (I o 2))) m (fun k x => x.1 = i32 k ∧ (∀ a, a ≠ F r 0 → x.2 a = A a) ∧ ∀ j, j < k → x.2 (F r 0) j = ren (i32 sh) (A (F o 0) j)) (fun x => (∀ a, a ≠ F r 0 → x.2 a = A a) ∧ ∀ j, j < m → x.2 (F r 0) j = ren (i32 sh) (A (F o 0) j)) (by omega) (fun k x hk h => ?_) (fun x h => ?_) (k0 := 0) (Nat.zero_le _) (x := (i32 0, A)) ⟨rfl, fun _ _ => rfl, fun j hj => by omega⟩
  · obtain ⟨⟨x1, B⟩, e0, g1, g2⟩ := key
    simp only at g1 g2
    obtain ⟨I', A', c, e, h1, h2, h3, h4⟩ := s_takePrints (F := F) (G := G) (I := up2 I r 2 (I o 2)) (A := B) (r := r) (m := m) hr hm (by rw [up2_at, hI])
    refine ⟨I', A', ?_, fun a k h => ?_, fun a h5 h6 => ?_, fun j hj => ?_, ?_, c, h2, ?_⟩
    · unfold f_X4_become zlet
      exact (zb2_s e0).trans (zb2_s e)
    · rw [h1 a k (h.imp id (fun h => h.2))]
      rcases h with h | h
      · exact up2_a _ _ _ _ h
      · by_cases har : a = r
        · subst har
          exact up2_k _ _ _ h.1
        · exact up2_a _ _ _ _ har
    · rw [h3 a h6]
      exact g1 a h5
    · rw [h3 _ hr]
      exact g2 j hj
    · rw [h1 r 2 (Or.inr (by decide)), up2_at, hI]
    · rw [h3 _ hr]
      exact h4
  · obtain ⟨x1, X⟩ := x
    obtain ⟨p1, p2, p3⟩ := h
    simp only at p1 p2 p3
    subst p1
    refine ⟨(i32 (k + 1), up2 X (F r 0) k (ren (i32 sh) (A (F o 0) k))), (if_neg (by rw [up2_at, hI]; exact le_f hk (by omega))).trans ((zck_s (i32_in (by omega : k < 12) (by decide))).trans ?_), rfl, fun a ha => ?_, fun j hj => ?_⟩
    · dsimp only
      rw [i32_nat (by omega), ← show X (F o 0) k = A (F o 0) k from by rw [p2 _ hto]]
      unfold ren
      by_cases h10 : (10 : Int32) ≤ X (F o 0) k
      · rw [if_pos h10, if_pos h10]
        refine (zck_s (i32_in2 (by omega : k < 12) (by decide))).trans ?_
        rw [i32_add1]
        rfl
      · rw [if_neg h10, if_neg h10]
        refine (zck_s (i32_in2 (by omega : k < 12) (by decide))).trans ?_
        rw [i32_add1]
        rfl
    · dsimp only
      rw [up2_f _ _ _ ha]
      exact p2 a ha
    · dsimp only
      by_cases hjk : j = k
      · subst hjk
        exact up2_at _ _ _ _
      · rw [up2_k _ _ _ hjk]
        exact p3 j (by omega)
  · obtain ⟨x1, X⟩ := x
    obtain ⟨p1, p⟩ := h
    simp only at p1
    subst p1
    exact ⟨_, if_pos (by rw [up2_at, hI]; exact le_t (Nat.le_refl _) (by omega)), p⟩
end ZRX
