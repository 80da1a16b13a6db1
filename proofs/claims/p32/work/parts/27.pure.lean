/-! what rows share -/
def cnt (c : Nat → Bool) : Nat → Nat
  | 0 => 0
  | n + 1 => if c n then cnt c n + 1 else cnt c n
theorem cnt_le (c : Nat → Bool) (n : Nat) : cnt c n ≤ n := by
  induction n with
  | zero => exact Nat.le_refl _
  | succ n ih =>
    unfold cnt
    split <;> omega
theorem cnt_mono {c d : Nat → Bool} {n : Nat} (h : ∀ k, k < n → c k = true → d k = true) : cnt c n ≤ cnt d n := by
  induction n with
  | zero => exact Nat.le_refl _
  | succ n ih =>
    have ih := ih (fun k hk => h k (by omega))
    unfold cnt
    by_cases hc : c n = true
    · rw [if_pos hc, if_pos (h n (by omega) hc)]
      omega
    · rw [if_neg hc]
      split <;> omega
theorem cnt_or {c d : Nat → Bool} (n : Nat) : cnt (fun k => c k || d k) n ≤ cnt c n + cnt d n := by
  induction n with
  | zero => exact Nat.le_refl _
  | succ n ih =>
    unfold cnt
    cases hc : c n <;> cases hd : d n <;> simp <;> omega
theorem cnt_one {p : Nat → Int32} {v : Int32} {n : Nat} (hp : ∀ i j, i < n → j < n → p i = p j → i = j) : cnt (fun k => decide (p k = v)) n ≤ 1 := by
  induction n with
  | zero => exact Nat.zero_le _
  | succ n ih =>
    have ih := ih (fun i j hi hj => hp i j (by omega) (by omega))
    unfold cnt
    by_cases h : p n = v
    · have h0 : cnt (fun k => decide (p k = v)) n = 0 := by
        have : cnt (fun k => decide (p k = v)) n ≤ cnt (fun _ => false) n := cnt_mono (fun k hk hv => by
          have := hp k n (by omega) (by omega) ((of_decide_eq_true hv).trans h.symm)
          omega)
        have z : ∀ m, cnt (fun _ => false) m = 0 := fun m => by
          induction m with
          | zero => rfl
          | succ m ih => exact ih
        rw [z] at this
        omega
      split <;> omega
    · rw [if_neg (by simpa using h)]
      exact ih
theorem cnt_hasB {p p2 : Nat → Int32} {n c2 : Nat} (hp : ∀ i j, i < n → j < n → p i = p j → i = j) : cnt (fun k => hasB p2 c2 (p k)) n ≤ c2 := by
  induction c2 with
  | zero =>
    have : cnt (fun k => hasB p2 0 (p k)) n ≤ cnt (fun _ => false) n := cnt_mono (fun k _ h => by
      obtain ⟨j, hj, -⟩ := hasB_t.mp h
      omega)
    have z : ∀ m, cnt (fun _ => false) m = 0 := fun m => by
      induction m with
      | zero => rfl
      | succ m ih => exact ih
    rw [z] at this
    omega
  | succ c2 ih =>
    have h1 : cnt (fun k => hasB p2 (c2 + 1) (p k)) n ≤ cnt (fun k => hasB p2 c2 (p k) || decide (p k = p2 c2)) n := cnt_mono (fun k _ h => by
      obtain ⟨j, hj, e⟩ := hasB_t.mp h
      by_cases hjc : j = c2
      · subst hjc
        rw [e]
        simp
      · rw [hasB_t.mpr ⟨j, by omega, e⟩]
        rfl)
    have h2 := cnt_or (c := fun k => hasB p2 c2 (p k)) (d := fun k => decide (p k = p2 c2)) n
    have h3 := cnt_one (v := p2 c2) hp
    omega
theorem cnt_all {c : Nat → Bool} {n : Nat} (h : ∀ k, k < n → c k = true) : cnt c n = n := by
  induction n with
  | zero => rfl
  | succ n ih =>
    unfold cnt
    rw [if_pos (h n (by omega)), ih (fun k hk => h k (by omega))]
theorem z_div : ∀ a, a < 10 → ∀ f, f < 10 → f ≠ 0 → (i32 a * 100) / i32 f = i32 (a * 100 / f) := by decide +kernel
theorem z_min {a b : Nat} (ha : a < 10) (hb' : b < 10) : (if i32 b < i32 a then i32 b else i32 a) = i32 (min a b) := by
  by_cases h : b < a
  · rw [if_pos ((i32_lt (by omega) (by omega)).mpr h), Nat.min_eq_right (by omega)]
  · rw [if_neg (fun q => h ((i32_lt (by omega) (by omega)).mp q)), Nat.min_eq_left (by omega)]
section ZSW
variable {F G : Nat → Nat → Nat} {I A : zH}
theorem s_shareWith {h r c1 c2 : Nat} (h1 : I h 3 = i32 c1) (h2 : I r 3 = i32 c2) (hc1 : c1 ≤ 9) (hc2 : c2 ≤ 9) (hp : ∀ i j, i < c1 → j < c1 → A (F h 1) i = A (F h 1) j → i = j) :
    ∃ q, q ≤ 100 ∧ f_X4_shareWith F G h r I A = some (i32 q) ∧ (1 ≤ c1 → (∀ k, k < c1 → hasB (A (F r 1)) c2 (A (F h 1) k) = true) → q = 100) := by
  unfold f_X4_shareWith
  rw [h1, h2, z_min (by omega) (by omega)]
  have hle : cnt (fun k => hasB (A (F r 1)) c2 (A (F h 1) k)) c1 ≤ c2 := cnt_hasB hp
  have hle2 : cnt (fun k => hasB (A (F r 1)) c2 (A (F h 1) k)) c1 ≤ c1 := cnt_le _ _
  by_cases hz : min c1 c2 = 0
  · rw [if_pos (by rw [hz]; rfl)]
    refine ⟨0, by decide, rfl, fun q1 q2 => ?_⟩
    rw [cnt_all q2] at hle
    omega
  · rw [if_neg (show ¬ i32 (min c1 c2) = (0 : Int32) from fun q => hz ((i32_inj (by omega) (by decide : 0 < 2147483648)).mp q))]
    have key := (zIt_fo (α := Int32) (B := fun x => g_X4_shareWith_23 F G h r (i32 (min c1 c2)) x.1 x.2 I A) (n := c1) (fun k acc => if hasB (A (F r 1)) c2 (A (F h 1) k) then acc + 1 else acc) (fun k acc => acc = i32 (cnt (fun k => hasB (A (F r 1)) c2 (A (F h 1) k)) k)) (by omega) (fun acc _ => if_pos (by rw [h1]; exact le_t (Nat.le_refl _) (by omega))) (fun k acc hk hP => ⟨by
      refine (if_neg (by rw [h1]; exact le_f hk (by omega))).trans ((zck_s (i32_in (by omega : k < 9) (by decide))).trans ?_)
      rw [i32_nat (by omega)]
      refine (zb_s (s_hasPrint h2 hc2)).trans ?_
      rw [i32_add1]
      cases hasB (A (F r 1)) c2 (A (F h 1) k) <;> rfl, by
      rw [hP]
      show _ = i32 (if hasB (A (F r 1)) c2 (A (F h 1) k) then _ else _)
      split
      · exact i32_add1 _
      · rfl⟩) (a := 0) rfl)
    obtain ⟨k1, k2⟩ := key
    have hnz : ¬ i32 (min c1 c2) = 0 := fun q => hz ((i32_inj (by omega) (by decide : 0 < 2147483648)).mp q)
    refine ⟨cnt (fun k => hasB (A (F r 1)) c2 (A (F h 1) k)) c1 * 100 / min c1 c2, ?_, (zb2_s k1).trans ((zck_s hnz).trans ?_), fun q1 q2 => ?_⟩
    · rw [Nat.div_le_iff_le_mul_add_pred (by omega)]
      have : cnt (fun k => hasB (A (F r 1)) c2 (A (F h 1) k)) c1 ≤ min c1 c2 := by omega
      have := Nat.mul_le_mul_right 100 this
      omega
    · rw [k2, z_div _ (by omega) _ (by omega) hz]
    · rw [cnt_all q2] at hle ⊢
      rw [show min c1 c2 = c1 by omega]
      exact Nat.mul_div_cancel_left 100 (by omega)
end ZSW
/-! renaming -/
def ren (sh x : Int32) : Int32 := if 10 ≤ x then x else (x + sh) - (x + sh) / 10 * 10
theorem z_ren : ∀ s, s < 10 → ∀ a, a < 10 → (i32 a + i32 s) - (i32 a + i32 s) / 10 * 10 = i32 ((a + s) % 10) := by decide +kernel
theorem nn_cases {x : Int32} (h : 0 ≤ x) : (∃ a, a < 10 ∧ x = i32 a ∧ ¬ (10 : Int32) ≤ x) ∨ (10 : Int32) ≤ x := by
  obtain ⟨k, hk, rfl⟩ := i32_of h
  by_cases h10 : k < 10
  · exact Or.inl ⟨k, h10, rfl, le_f h10 (by decide)⟩
  · exact Or.inr (le_t (n := 10) (by omega) hk)
theorem ren_10 {x : Int32} {s : Nat} (hs : s < 10) (h : 0 ≤ x) : (10 : Int32) ≤ ren (i32 s) x ↔ (10 : Int32) ≤ x := by
  rcases nn_cases h with ⟨a, ha, rfl, h1⟩ | h1
  · unfold ren
    rw [if_neg h1, z_ren s hs a ha]
    exact ⟨fun q => absurd q (le_f (Nat.mod_lt _ (by decide)) (by decide)), fun q => absurd q h1⟩
  · unfold ren
    rw [if_pos h1]
theorem ren_inj {x y : Int32} {s : Nat} (hs : s < 10) (hx : 0 ≤ x) (hy : 0 ≤ y) : ren (i32 s) x = ren (i32 s) y ↔ x = y := by
  refine ⟨fun h => ?_, fun h => by rw [h]⟩
  have e := ren_10 hs hx
  rw [h, ren_10 hs hy] at e
  rcases nn_cases hx with ⟨a, ha, rfl, h1⟩ | h1
  · rcases nn_cases hy with ⟨c, hc, rfl, h2⟩ | h2
    · unfold ren at h
      rw [if_neg h1, if_neg h2, z_ren s hs a ha, z_ren s hs c hc] at h
      have := (i32_inj (by omega) (by omega)).mp h
      rw [i32_inj (by omega) (by omega)]
      omega
    · exact absurd (e.mp h2) h1
  · have h2 := e.mpr h1
    unfold ren at h
    rwa [if_pos h1, if_pos h2] at h
theorem ren_nn {x : Int32} {s : Nat} (hs : s < 10) (hx : 0 ≤ x) : 0 ≤ ren (i32 s) x := by
  rcases nn_cases hx with ⟨a, ha, rfl, h1⟩ | h1
  · unfold ren
    rw [if_neg h1, z_ren s hs a ha]
    exact le_t (Nat.zero_le _) (by omega)
  · unfold ren
    rw [if_pos h1]
    exact hx

theorem zfo_cg4 {α : Type} {f g : Nat → α → α} {n : Nat} {a : α} (h : ∀ k a, k < n → f k a = g k a) : zfo f n a = zfo g n a := by
  induction n with
  | zero => rfl
  | succ n ih =>
    show f n (zfo f n a) = g n (zfo g n a)
    rw [ih (fun k a hk => h k a (by omega)), h n _ (by omega)]
theorem prv_ren {t t' : Nat → Int32} {s sh : Nat} (hs : sh < 10) (h0 : ∀ e, e < 4 → 0 ≤ t (s + e)) (h : ∀ e, e < 4 → t' (s + e) = ren (i32 sh) (t (s + e))) : prv t' s = prv t s := by
  unfold prv
  apply zfo_cg4
  intro e acc he
  have hf : fpv t' s e = fpv t s e := by
    unfold fpv
    rw [fpg_cg (q' := fun d => decide (t (s + d) = t (s + e))) e 0 (fun d hd => ?_)]
    rw [h d (by omega), h e he]
    exact decide_eq_decide.mpr (ren_inj hs (h0 d (by omega)) (h0 e he))
  rw [hf, h e he]
  by_cases h1 : (10 : Int32) ≤ t (s + e)
  · rw [if_pos h1, if_pos ((ren_10 hs (h0 e he)).mpr h1)]
    unfold ren
    rw [if_pos h1]
  · rw [if_neg h1, if_neg (fun q => h1 ((ren_10 hs (h0 e he)).mp q))]
