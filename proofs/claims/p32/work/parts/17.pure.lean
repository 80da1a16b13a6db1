/-! numbers that are small, and sets of bits -/
abbrev i32 (k : Nat) : Int32 := Int32.ofNat k
theorem i32_nat {k : Nat} (h : k < 2147483648) : (i32 k).toNatClampNeg = k := Int32.toNatClampNeg_ofNat_of_lt h
theorem i32_add1 (k : Nat) : i32 k + 1 = i32 (k + 1) := (Int32.ofNat_add k 1).symm
theorem i32_add (a b : Nat) : i32 a + i32 b = i32 (a + b) := (Int32.ofNat_add a b).symm
theorem i32_le {a b : Nat} (ha : a < 2147483648) (hb : b < 2147483648) : i32 a ≤ i32 b ↔ a ≤ b := Int32.ofNat_le_iff_le ha hb
theorem i32_lt {a b : Nat} (ha : a < 2147483648) (hb : b < 2147483648) : i32 a < i32 b ↔ a < b := Int32.ofNat_lt_iff_lt ha hb
theorem i32_nn {k : Nat} (h : k < 2147483648) : ¬ i32 k < 0 := fun q => by
  have := (i32_lt h (by decide : 0 < 2147483648)).mp q
  omega
theorem i32_inj {a b : Nat} (ha : a < 2147483648) (hb : b < 2147483648) : i32 a = i32 b ↔ a = b := ⟨fun h => by
  have := congrArg Int32.toNatClampNeg h
  rwa [i32_nat ha, i32_nat hb] at this, fun h => by rw [h]⟩
theorem i32_in {k n : Nat} (h : k < n) (hn : n < 2147483648) : ¬ (i32 k < 0 ∨ n ≤ (i32 k).toNatClampNeg) := fun q => by
  rcases q with q | q
  · exact i32_nn (by omega) q
  · rw [i32_nat (by omega)] at q
    omega
theorem i32_sub {a b : Nat} (h : b ≤ a) : i32 a - i32 b = i32 (a - b) := by
  have e : i32 a = i32 (a - b) + i32 b := by rw [i32_add, Nat.sub_add_cancel h]
  rw [e]
  exact Int32.add_sub_cancel _ _
theorem i32_of {x : Int32} (h : 0 ≤ x) : ∃ k, k < 2147483648 ∧ x = i32 k := ⟨x.toNatClampNeg, x.toNatClampNeg_lt, (Int32.ofNat_toNatClampNeg x h).symm⟩
theorem i32_ne {k : Nat} (h : k < 2147483648) : ¬ i32 k = -1 := fun q => by
  have h1 := i32_nn h
  rw [q] at h1
  exact h1 (by decide)
/-- bit k of s -/
def hb (s : Int32) (k : Nat) : Bool := s.toBitVec.getLsbD k
theorem hb_ext {s t : Int32} (h : ∀ k, k < 32 → hb s k = hb t k) : s = t := Int32.toBitVec_inj.1 (BitVec.eq_of_getLsbD_eq fun i hi => h i hi)
theorem hb_or (s t : Int32) (k : Nat) : hb (s ||| t) k = (hb s k || hb t k) := by
  unfold hb
  rw [Int32.toBitVec_or, BitVec.getLsbD_or]
theorem hb_and (s t : Int32) (k : Nat) : hb (s &&& t) k = (hb s k && hb t k) := by
  unfold hb
  rw [Int32.toBitVec_and, BitVec.getLsbD_and]
theorem hb_not (s : Int32) {k : Nat} (hk : k < 32) : hb (s ^^^ (-1)) k = !hb s k := by
  unfold hb
  rw [Int32.toBitVec_xor, BitVec.getLsbD_xor]
  have h1 : (-1 : Int32).toBitVec.getLsbD k = true := by
    have h2 : (-1 : Int32).toBitVec = BitVec.allOnes 32 := by decide
    rw [h2, BitVec.getLsbD_allOnes]
    simpa using hk
  rw [h1, Bool.xor_true]
theorem hb_zero (k : Nat) : hb 0 k = false := by
  unfold hb
  have h : (0 : Int32).toBitVec = 0#32 := by decide
  rw [h]
  simp
theorem hb_big {s : Int32} {k : Nat} (h : 32 ≤ k) : hb s k = false := by
  unfold hb
  exact BitVec.getLsbD_of_ge _ _ h
theorem z_sh : ∀ k, k < 32 → (i32 k &&& 31).toBitVec.smod 32 = BitVec.ofNat 32 k := by decide +kernel
theorem hb_one_ : ∀ k, k < 32 → ((1 : Int32) <<< (i32 k &&& 31)).toBitVec = 1#32 <<< k := by decide +kernel
theorem hb_one {k : Nat} (hk : k < 32) (j : Nat) : hb ((1 : Int32) <<< (i32 k &&& 31)) j = decide (j = k) := by
  unfold hb
  rw [hb_one_ k hk, ← BitVec.twoPow_eq, BitVec.getLsbD_twoPow]
  by_cases h : j = k
  · subst h
    simp [hk]
  · have h2 : ¬ k = j := fun q => h q.symm
    simp [h, h2]
theorem hb_sh (s : Int32) {k : Nat} (hk : k < 32) : (s >>> (i32 k &&& 31)) &&& 1 = if hb s k then 1 else 0 := by
  apply Int32.toBitVec_inj.1
  rw [Int32.toBitVec_and, Int32.toBitVec_shiftRight, z_sh k hk]
  apply BitVec.eq_of_getLsbD_eq
  intro i hi
  have e1 : (1 : Int32).toBitVec = 1#32 := by decide
  rw [BitVec.getLsbD_and, e1, BitVec.getLsbD_one]
  have hk2 : (BitVec.ofNat 32 k).toNat = k := by simp; omega
  show ((s.toBitVec.sshiftRight (BitVec.ofNat 32 k).toNat).getLsbD i && _) = _
  rw [hk2, BitVec.getLsbD_sshiftRight]
  by_cases h0 : i = 0
  · subst h0
    unfold hb
    by_cases hs : s.toBitVec.getLsbD k = true
    · simp [hs, hk, e1]
    · rw [if_neg hs, Nat.add_zero, Bool.eq_false_iff.mpr hs]
      simp [hk]
  · by_cases hs : hb s k = true
    · simp [h0, hs, e1]
    · simp [h0, hs]
theorem hb_t {s : Int32} {k : Nat} (hk : k < 32) : ((s >>> (i32 k &&& 31)) &&& 1 = 1) ↔ hb s k = true := by
  rw [hb_sh s hk]
  cases hb s k <;> simp
theorem hb_f {s : Int32} {k : Nat} (hk : k < 32) : ((s >>> (i32 k &&& 31)) &&& 1 = 0) ↔ hb s k = false := by
  rw [hb_sh s hk]
  cases hb s k <;> simp
theorem hb_eq {s t : Int32} {j k : Nat} (hj : j < 32) (hk : k < 32) : ((s >>> (i32 j &&& 31)) &&& 1 = (t >>> (i32 k &&& 31)) &&& 1) ↔ hb s j = hb t k := by
  rw [hb_sh s hj, hb_sh t hk]
  cases hb s j <;> cases hb t k <;> simp
/-- empty -/
theorem hb_e {s : Int32} : s = 0 ↔ ∀ k, k < 32 → hb s k = false := ⟨fun h k _ => by rw [h]; exact hb_zero k, fun h => hb_ext fun k hk => by rw [h k hk, hb_zero]⟩
theorem hb_ne {s : Int32} (h : s ≠ 0) : ∃ k, k < 32 ∧ hb s k = true := by
  refine Decidable.byContradiction fun q => h (hb_e.mpr fun k hk => ?_)
  cases hs : hb s k with
  | false => rfl
  | true => exact absurd ⟨k, hk, hs⟩ q
/-- a set within 0 .. n - 1 is a number below 2 ^ n -/
def hbIn (s : Int32) (n : Nat) : Prop := ∀ k, n ≤ k → hb s k = false
theorem hbIn_lt {s : Int32} {n : Nat} (hn : n < 32) (h : hbIn s n) : ∃ m, m < 2 ^ n ∧ s = i32 m := by
  have h1 : s.toBitVec.toNat < 2 ^ n := by
    apply Nat.lt_pow_two_of_testBit
    intro i hi
    have := h i hi
    unfold hb at this
    rwa [← BitVec.testBit_toNat] at this
  refine ⟨s.toBitVec.toNat, h1, Int32.toBitVec_inj.1 ?_⟩
  show s.toBitVec = BitVec.ofNat 32 s.toBitVec.toNat
  simp
theorem hb_i32 {m : Nat} (k : Nat) (hm : m < 2147483648) : hb (i32 m) k = m.testBit k := by
  unfold hb
  show (BitVec.ofNat 32 m).getLsbD k = m.testBit k
  rw [BitVec.getLsbD_ofNat]
  by_cases hk : k < 32
  · simp [hk]
  · have : m.testBit k = false := Nat.testBit_lt_two_pow (Nat.lt_of_lt_of_le hm (Nat.le_trans (by decide : 2147483648 ≤ 2 ^ 32) (Nat.pow_le_pow_right (by decide) (by omega))))
    simp [hk, this]
/-! good ends: rewriting, and what a loop comes to -/
section ZE
variable {α β γ δ ε : Type}
theorem zb_s {o : Option α} {x : α} {k : α → Option β} (h : o = some x) : zb o k = k x := by rw [h]; rfl
theorem zb2_s {o : Option (α × β)} {x : α} {y : β} {k : α → β → Option γ} (h : o = some (x, y)) : zb2 o k = k x y := by rw [h]; rfl
theorem zb3_s {o : Option (α × β × γ)} {x : α} {y : β} {z : γ} {k : α → β → γ → Option δ} (h : o = some (x, y, z)) : zb3 o k = k x y z := by rw [h]; rfl
theorem zb4_s {o : Option (α × β × γ × δ)} {x : α} {y : β} {z : γ} {u : δ} {k : α → β → γ → δ → Option ε} (h : o = some (x, y, z, u)) : zb4 o k = k x y z u := by rw [h]; rfl
theorem zck_s {c : Prop} [Decidable c] {x : Option β} (h : c) : zck c x = x := if_pos h
theorem zs_l {w : γ → β} {o : Option (α ⊕ γ)} {x : α} {k : α → Option β} (h : o = some (.inl x)) : zs w o k = k x := by rw [h]; rfl
theorem zs_r {w : γ → β} {o : Option (α ⊕ γ)} {x : γ} {k : α → Option β} (h : o = some (.inr x)) : zs w o k = some (w x) := by rw [h]; rfl
/-- step 0, step 1, .. -/
def zfo (step : Nat → α → α) : Nat → α → α
  | 0, a => a
  | n + 1, a => step n (zfo step n a)
/-- a loop: from k0 on, k of the rounds are still to come -/
theorem zIt_go (B : α → Option (α ⊕ β)) (P : Nat → α → Prop) (Q : β → Prop) (hs : ∀ k a, P (k + 1) a → ∃ a', B a = some (.inl a') ∧ P k a') (h0 : ∀ a, P 0 a → ∃ b, B a = some (.inr b) ∧ Q b) : ∀ (n k : Nat) (a : α), k < n → P k a → ∃ b, zIt B n a = some b ∧ Q b := by
  intro n
  induction n with
  | zero => intro k a h; omega
  | succ n ih =>
    intro k a h hP
    cases k with
    | zero =>
      obtain ⟨b, hb, hq⟩ := h0 a hP
      exact ⟨b, by unfold zIt; rw [hb], hq⟩
    | succ k =>
      obtain ⟨a', ha, hP'⟩ := hs k a hP
      obtain ⟨b, hb, hq⟩ := ih k a' (by omega) hP'
      exact ⟨b, by unfold zIt; rw [ha]; exact hb, hq⟩
/-- a loop that may end early -/
theorem zIt_gx (B : α → Option (α ⊕ β)) (P : Nat → α → Prop) (Q : β → Prop) (hs : ∀ k a, P (k + 1) a → (∃ a', B a = some (.inl a') ∧ P k a') ∨ ∃ b, B a = some (.inr b) ∧ Q b) (h0 : ∀ a, P 0 a → ∃ b, B a = some (.inr b) ∧ Q b) : ∀ (n k : Nat) (a : α), k < n → P k a → ∃ b, zIt B n a = some b ∧ Q b := by
  intro n
  induction n with
  | zero => intro k a h; omega
  | succ n ih =>
    intro k a h hP
    cases k with
    | zero =>
      obtain ⟨b, hb, hq⟩ := h0 a hP
      exact ⟨b, by unfold zIt; rw [hb], hq⟩
    | succ k =>
      rcases hs k a hP with ⟨a', ha, hP'⟩ | ⟨b, hb, hq⟩
      · obtain ⟨b, hb, hq⟩ := ih k a' (by omega) hP'
        exact ⟨b, by unfold zIt; rw [ha]; exact hb, hq⟩
      · exact ⟨b, by unfold zIt; rw [hb], hq⟩
/-- counted loops: the counter last, second of three, first -/
theorem zIt_fo {B : α × Int32 → Option ((α × Int32) ⊕ (α × Int32))} (step : Nat → α → α) (P : Nat → α → Prop) {n : Nat} (hn : n < 1999) (h0 : ∀ a, P n a → B (a, i32 n) = some (.inr (a, i32 n))) (hs : ∀ k a, k < n → P k a → B (a, i32 k) = some (.inl (step k a, i32 (k + 1))) ∧ P (k + 1) (step k a)) {a : α} (ha : P 0 a) : zIt B 2000 (a, i32 0) = some (zfo step n a, i32 n) ∧ P n (zfo step n a) := by
  have hP : ∀ k, k ≤ n → P k (zfo step k a) := fun k => by
    induction k with
    | zero => exact fun _ => ha
    | succ k ih => exact fun h => (hs k _ (by omega) (ih (by omega))).2
  have := zIt_go B (fun k x => k ≤ n ∧ x = (zfo step (n - k) a, i32 (n - k))) (fun b => b = (zfo step n a, i32 n)) (fun k x h => by
    obtain ⟨h1, rfl⟩ := h
    obtain ⟨h2, -⟩ := hs (n - (k + 1)) _ (by omega) (hP (n - (k + 1)) (by omega))
    refine ⟨_, h2, by omega, ?_⟩
    have e : n - k = (n - (k + 1)) + 1 := by omega
    rw [e]
    rfl) (fun x h => by
    obtain ⟨-, rfl⟩ := h
    exact ⟨_, h0 _ (hP n (Nat.le_refl _)), rfl⟩) 2000 n (a, i32 0) (by omega) ⟨Nat.le_refl _, by rw [Nat.sub_self]; rfl⟩
  obtain ⟨b, hb, rfl⟩ := this
  exact ⟨hb, hP n (Nat.le_refl _)⟩
end ZE
