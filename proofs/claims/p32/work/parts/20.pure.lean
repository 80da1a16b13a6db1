/-! counting bits, and that what is counted is there -/
def popc (m : Nat) : Nat := (bcv (i32 m)).toNatClampNeg
theorem pop_1 : ∀ m, m < 1024 → bcv (i32 m) = i32 (popc m) ∧ popc m ≤ 10 ∧ (popc m = 0 ↔ m = 0) := by decide +kernel
theorem pop_add : ∀ k, k < 10 → ∀ m, m < 1024 → m.testBit k = false → popc (m ||| 2 ^ k) = popc m + 1 := by decide +kernel
theorem pop_all : popc 1023 = 10 := by decide +kernel
theorem z_mask : ∀ k, k < 10 → ∀ j, j < 32 → hb (((2 : Int32) <<< (i32 k &&& 31)) - 1) j = decide (j ≤ k) := by decide +kernel
theorem hb_10 {s : Int32} (h : hbIn s 10) : ∃ m, m < 1024 ∧ s = i32 m := hbIn_lt (by decide) h
theorem hbIn_and {s t : Int32} {n : Nat} (h : hbIn s n) : hbIn (s &&& t) n := fun k hk => by rw [hb_and, h k hk]; rfl
theorem hbIn_or {s t : Int32} {n : Nat} (h : hbIn s n) (h2 : hbIn t n) : hbIn (s ||| t) n := fun k hk => by rw [hb_or, h k hk, h2 k hk]; rfl
theorem clv_in (nd : Int32) (ab con S R W : Nat → Int32) (a : Nat) (p : Int32) : hbIn (clv nd ab con S R W a p) 10 := zset_in _ (by decide)
theorem bcv_s {s : Int32} (h : hbIn s 10) : ∃ c, c ≤ 10 ∧ bcv s = i32 c ∧ (c = 0 ↔ s = 0) := by
  obtain ⟨m, hm, rfl⟩ := hb_10 h
  obtain ⟨h1, h2, h3⟩ := pop_1 m hm
  refine ⟨popc m, h2, h1, h3.trans ⟨fun q => congrArg i32 q, fun q => ?_⟩⟩
  exact (i32_inj (by omega) (by decide : 0 < 2147483648)).mp q
/-- no node clashes -/
def noCl (nd : Int32) (ab con S R W : Nat → Int32) : Prop := ∀ k, k < 10 → hb nd k = true → ∀ j, j ≤ k → hb (clv nd ab con S R W k (con k)) j = false
theorem cntv_s (nd : Int32) (ab con S R W : Nat → Int32) : ∃ c, c ≤ 100 ∧ cntv nd ab con S R W = i32 c ∧ (c = 0 ↔ noCl nd ab con S R W) := by
  have h : ∀ n, n ≤ 10 → ∃ c, c ≤ 10 * n ∧ zfo (fun k acc => if hb nd k then acc + bcv (clv nd ab con S R W k (con k) &&& (((2 : Int32) <<< (i32 k &&& 31)) - 1)) else acc) n 0 = i32 c ∧ (c = 0 ↔ ∀ k, k < n → hb nd k = true → ∀ j, j ≤ k → hb (clv nd ab con S R W k (con k)) j = false) := by
    intro n
    induction n with
    | zero => exact fun _ => ⟨0, Nat.le_refl _, rfl, fun _ k hk => by omega, fun _ => rfl⟩
    | succ n ih =>
      intro hn
      obtain ⟨c, h1, h2, h3⟩ := ih (by omega)
      have e : zfo (fun k acc => if hb nd k then acc + bcv (clv nd ab con S R W k (con k) &&& (((2 : Int32) <<< (i32 k &&& 31)) - 1)) else acc) (n + 1) 0 = if hb nd n then i32 c + bcv (clv nd ab con S R W n (con n) &&& (((2 : Int32) <<< (i32 n &&& 31)) - 1)) else i32 c := by
        rw [← h2]
        rfl
      rw [e]
      by_cases hx : hb nd n = true
      · obtain ⟨d, d1, d2, d3⟩ := bcv_s (hbIn_and (t := ((2 : Int32) <<< (i32 n &&& 31)) - 1) (clv_in nd ab con S R W n (con n)))
        rw [if_pos hx, d2, i32_add]
        have hz : d = 0 ↔ ∀ j, j ≤ n → hb (clv nd ab con S R W n (con n)) j = false := by
          rw [d3, hb_e]
          constructor
          · intro q j hj
            have := q j (by omega)
            rw [hb_and, z_mask n (by omega) j (by omega)] at this
            simpa [hj] using this
          · intro q j hj
            rw [hb_and, z_mask n (by omega) j hj]
            by_cases hjn : j ≤ n
            · rw [q j hjn]; rfl
            · simp [hjn]
        refine ⟨c + d, by omega, rfl, ?_⟩
        rw [Nat.add_eq_zero_iff, h3, hz]
        constructor
        · rintro ⟨q1, q2⟩ k hk hkn
          by_cases hkn2 : k < n
          · exact q1 k hkn2 hkn
          · rw [show k = n by omega]
            exact q2
        · intro q
          exact ⟨fun k hk => q k (by omega), q n (by omega) hx⟩
      · rw [if_neg hx]
        refine ⟨c, by omega, rfl, h3.trans ⟨fun q k hk hkn => ?_, fun q k hk => q k (by omega)⟩⟩
        by_cases hkn2 : k < n
        · exact q k hkn2 hkn
        · rw [show k = n by omega] at hkn
          exact absurd hkn hx
  obtain ⟨c, h1, h2, h3⟩ := h 10 (Nat.le_refl _)
  exact ⟨c, h1, h2, h3⟩
/-- the duties that are asked and not noticed -/
theorem dutv_bit (nd : Int32) (con K : Nat → Int32) (notes : Int32) {k : Nat} (hk : k < 32) (h : hb notes k = true) : hb (dutv nd con K notes) k = false := by
  unfold dutv
  rw [hb_and, hb_not _ hk, h]
  simp
/-! the remedy -/
def clsv (nd : Int32) (ab con S R W : Nat → Int32) (k : Nat) : Int32 := if hb nd k then clv nd ab con S R W k (con k) else 0
def invv (c : Nat → Int32) : Int32 := zfo (fun k acc => acc ||| c k) 10 0
def lnB (c : Nat → Int32) (s : Int32) : Bool := (List.range 10).all fun k => hb s k || decide (c k &&& (s ^^^ (-1)) = 0)
def remv (c : Nat → Int32) : Int32 := zfo (fun k best => if decide (i32 k &&& (invv c ^^^ (-1)) = 0) && !(decide (bcv best ≤ bcv (i32 k))) && lnB c (i32 k) then i32 k else best) (invv c).toNatClampNeg (invv c)
theorem hb_invv (c : Nat → Int32) (j : Nat) : hb (invv c) j = (List.range 10).any fun k => hb (c k) j := by
  have h : ∀ n, hb (zfo (fun k acc => acc ||| c k) n 0) j = (List.range n).any fun k => hb (c k) j := by
    intro n
    induction n with
    | zero => exact hb_zero j
    | succ n ih =>
      have e : zfo (fun k acc => acc ||| c k) (n + 1) 0 = zfo (fun k acc => acc ||| c k) n 0 ||| c n := rfl
      rw [e, hb_or, ih, List.range_succ, List.any_append]
      simp
  exact h 10
theorem invv_in {c : Nat → Int32} (hc : ∀ k, k < 10 → hbIn (c k) 10) : hbIn (invv c) 10 := fun j hj => by
  rw [hb_invv]
  rw [List.any_eq_false]
  intro k hk
  rw [hc k (List.mem_range.mp hk) j hj]
  decide
theorem lnB_s {c : Nat → Int32} {s : Int32} (h : lnB c s = true) {k : Nat} (hk : k < 10) (hs : hb s k = false) {j : Nat} (hj : j < 32) (hcj : hb (c k) j = true) : hb s j = true := by
  unfold lnB at h
  have h1 := List.all_eq_true.mp h k (List.mem_range.mpr hk)
  rw [hs, Bool.false_or, decide_eq_true_eq] at h1
  have h2 := hb_e.mp h1 j hj
  rw [hb_and, hcj, Bool.true_and, hb_not _ hj] at h2
  simpa using h2
theorem lnB_i {c : Nat → Int32} (hc : ∀ k, k < 10 → hbIn (c k) 10) : lnB c (invv c) = true := by
  unfold lnB
  rw [List.all_eq_true]
  intro k hk
  have hk := List.mem_range.mp hk
  rw [Bool.or_eq_true]
  refine Or.inr (decide_eq_true ?_)
  refine hb_e.mpr fun j hj => ?_
  rw [hb_and, hb_not _ hj, hb_invv]
  by_cases h : hb (c k) j = true
  · have : ((List.range 10).any fun k => hb (c k) j) = true := List.any_eq_true.mpr ⟨k, List.mem_range.mpr hk, h⟩
    rw [this]
    simp
  · rw [Bool.eq_false_iff.mpr h]
    rfl
/-- the remedy leaves no clash; it is within what clashes; and it is empty where nothing does -/
theorem remv_s {c : Nat → Int32} (hc : ∀ k, k < 10 → hbIn (c k) 10) : lnB c (remv c) = true ∧ (∀ j, hb (remv c) j = true → hb (invv c) j = true) ∧ hbIn (remv c) 10 ∧ (remv c = 0 ↔ invv c = 0) := by
  have h : ∀ n, n ≤ 1024 → (fun s => lnB c s = true ∧ (∀ j, hb s j = true → hb (invv c) j = true)) (zfo (fun k best => if decide (i32 k &&& (invv c ^^^ (-1)) = 0) && !(decide (bcv best ≤ bcv (i32 k))) && lnB c (i32 k) then i32 k else best) n (invv c)) := by
    intro n
    induction n with
    | zero => exact fun _ => ⟨lnB_i hc, fun j h => h⟩
    | succ n ih =>
      intro hn
      have ih := ih (by omega)
      show (fun s => lnB c s = true ∧ (∀ j, hb s j = true → hb (invv c) j = true)) (if decide (i32 n &&& (invv c ^^^ (-1)) = 0) && !(decide (bcv (zfo _ n (invv c)) ≤ bcv (i32 n))) && lnB c (i32 n) then i32 n else zfo _ n (invv c))
      split
      · rename_i q
        rw [Bool.and_eq_true, Bool.and_eq_true, decide_eq_true_eq] at q
        refine ⟨q.2, fun j hj => ?_⟩
        have hj32 : j < 32 := Decidable.byContradiction fun q => by rw [hb_big (by omega)] at hj; cases hj
        have h1 := hb_e.mp q.1.1 j hj32
        rw [hb_and, hj, Bool.true_and, hb_not _ hj32] at h1
        simpa using h1
      · exact ih
  obtain ⟨m, hm, em⟩ := hb_10 (invv_in hc)
  have h := h (invv c).toNatClampNeg (by rw [em, i32_nat (by omega)]; omega)
  refine ⟨h.1, h.2, fun j hj => ?_, fun q => ?_, fun q => ?_⟩
  · cases hb' : hb (remv c) j with
    | false => rfl
    | true =>
      have := h.2 j hb'
      rw [invv_in hc j hj] at this
      cases this
  · refine hb_e.mpr fun j hj => ?_
    rw [hb_invv, List.any_eq_false]
    intro k hk hcj
    have h1 := lnB_s h.1 (List.mem_range.mp hk) (by show hb (remv c) k = false; rw [q]; exact hb_zero k) hj hcj
    have h2 : hb (remv c) j = true := h1
    rw [q, hb_zero] at h2
    cases h2
  · unfold remv
    rw [q]
    rfl
